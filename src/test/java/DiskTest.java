/** Promises 7 to 18, 39 to 43, 45 and 53 to 55: what stands on the disk, and its gaps. */
public final class DiskTest {
    private static final Check check = new Check();
    /** Usable are 3 to 94; gaps are 3 to 7, 18 to 23, 30 to 31 and 40 to 94. */
    private static final String TEXT = "disk 100;head 3;tail 5;align 4;chunk 3;"
        + "part 8 10 1 4;part 32 8 1 2;part 24 6 2 3;lock 2;";
    /** No sector is usable but those of the partition. */
    private static final String FULL = "disk 64;head 2;tail 3;part 2 59 0 1;";

    public static void main(String[] args) {
        promise07Count();
        promise08Part();
        promise09Sector();
        promise10Owner();
        promise11Place();
        promise12IsWhole();
        promise13ByStart();
        promise14Gap();
        promise15LargestGap();
        promise16Fit();
        promise17Reason();
        promise18Overlapped();
        promise39Waste();
        promise40Scatter();
        promise41Used();
        promise42Slack();
        promise43OfKind();
        promise45Copies();
        promise53Behind();
        promise54GapAt();
        promise55Verify();
        gapsOfAMove();
        endsOfBusyAreas();
        areasOfAMoveTurnedBack();
        gapsThatAreGone();
        noGapsWhileAMoveIsOn();
        check.end();
    }

    private static void counts(String when, PartitionBench b, int... counts) {
        for (int what = 0; what < counts.length; what++) {
            check.due(when + ", count(" + what + ")", b.count(what), counts[what]);
        }
    }

    private static void promise07Count() {
        check.at("promise 7");
        PartitionBench b = Texts.bench(TEXT);
        counts("loaded", b, 100, 3, 5, 4, 3, 3, 68, 4, 0, 0, 0, 0);
        b.begin(1, 60);
        counts("begun", b, 100, 3, 5, 4, 3, 3, 60, 5, 0, 0, 0, 1);
        b.tear();
        b.tear();
        b.run(2);
        counts("two steps", b, 100, 3, 5, 4, 3, 3, 60, 5, 2, 2, 0, 4);
        b.run(2);
        counts("ended", b, 100, 3, 5, 4, 3, 3, 68, 4, 3, 2, 1, 5);
        b.set(3, 7);
        b.set(4, 9);
        counts("set", b, 100, 3, 5, 7, 9, 3, 68, 4, 3, 2, 1, 7);
        check.throwsDue("count(-1)", IllegalArgumentException.class, () -> b.count(-1));
        check.throwsDue("count(12)", IllegalArgumentException.class, () -> b.count(12));
        check.throwsDue("count(least)", IllegalArgumentException.class, () -> b.count(Integer.MIN_VALUE));
        check.throwsDue("count(greatest)", IllegalArgumentException.class, () -> b.count(Integer.MAX_VALUE));
        counts("full", Texts.bench(FULL), 64, 2, 3, 1, 4, 1, 0, 0);
    }

    private static void promise08Part() {
        check.at("promise 8");
        PartitionBench b = Texts.bench(TEXT);
        int[] due = {24, 6, 3, 2, 1, 2, 0};
        for (int what = 0; what < due.length; what++) {
            check.due("part(2, " + what + ")", b.part(2, what), due[what]);
        }
        check.due("not locked", b.part(0, 4), 0);
        b.begin(0, 44);
        check.due("FROM while it is moved", b.part(0, 0), 8);
        b.run(99);
        check.due("TO behind", b.part(0, 0), 44);
        check.due("ended", b.part(0, 6), 1);
        b.begin(0, 8);
        b.run(99);
        check.due("ended twice", b.part(0, 6), 2);
        check.due("another one", b.part(1, 6), 0);
        check.throwsDue("what 7", IllegalArgumentException.class, () -> b.part(0, 7));
        check.throwsDue("what -1", IllegalArgumentException.class, () -> b.part(0, -1));
        check.throwsDue("what greatest", IllegalArgumentException.class, () -> b.part(0, Integer.MAX_VALUE));
        check.throwsDue("what least", IllegalArgumentException.class, () -> b.part(0, Integer.MIN_VALUE));
        check.throwsDue("no partition, what 7", IllegalArgumentException.class, () -> b.part(3, 7));
        check.throwsDue("part -1, what -1", IllegalArgumentException.class, () -> b.part(-1, -1));
        for (int part : new int[] {3, 7, 8, -1, Integer.MAX_VALUE, Integer.MIN_VALUE}) {
            check.throwsDue("part " + part, java.util.NoSuchElementException.class, () -> b.part(part, 0));
        }
    }

    private static void promise09Sector() {
        check.at("promise 9");
        PartitionBench b = Texts.bench(TEXT);
        int[][] due = {{0, 0}, {7, 0}, {8, 1000}, {17, 1009}, {18, 0}, {24, 3000}, {29, 3005}, {32, 2000}, {39, 2007},
            {40, 0}, {99, 0}};
        for (int[] d : due) {
            check.due("sector(" + d[0] + ")", b.sector(d[0]), d[1]);
        }
        for (int sector : new int[] {100, -1, Integer.MAX_VALUE, Integer.MIN_VALUE}) {
            check.throwsDue("sector " + sector, IndexOutOfBoundsException.class, () -> b.sector(sector));
        }
        b.remove(0);
        check.due("removed, it keeps what it holds", b.sector(9), 1001);
        b.add(8, 2, 0, 1);
        check.due("the fourth made", b.sector(9), 4001);
        check.due("not overwritten", b.sector(10), 1002);
        check.due("the last one", Texts.bench("disk 600;part 0 600 0 1;").sector(599), 1599);
    }

    private static void promise10Owner() {
        check.at("promise 10");
        PartitionBench b = Texts.bench(TEXT);
        int[][] due = {{7, -1}, {8, 0}, {17, 0}, {18, -1}, {24, 2}, {29, 2}, {30, -1}, {32, 1}, {39, 1}, {40, -1}};
        for (int[] d : due) {
            check.due("owner(" + d[0] + ")", b.owner(d[0]), d[1]);
        }
        for (int sector : new int[] {100, -1, Integer.MAX_VALUE, Integer.MIN_VALUE}) {
            check.throwsDue("owner " + sector, IndexOutOfBoundsException.class, () -> b.owner(sector));
        }
        // Two to the right by chunks of 3 (the last one of 1), the scratch area is 92 to 94.
        b.set(3, 1);
        b.begin(0, 10);
        check.due("scratch", b.move(3), 92);
        b.run(2);
        String where = "";
        for (int s = 8; s < 20; s++) {
            where += b.owner(s) < 0 ? "-" : b.owner(s);
        }
        check.due("the last block at its new place, blocks 6 to 8 in the scratch area", where, "000000-----0");
        check.due("in the scratch area", "" + b.owner(91) + b.owner(92) + b.owner(94), "-100");
        b.run(1);
        check.due("nothing is there any more", b.owner(92), -1);
        check.due("a new place", b.owner(16), 0);
        check.due("an old place that was left", b.owner(14), -1);
        ownersBesideAMove("to the right", 40);
        ownersBesideAMove("to the left", 10);
        check.due("no partition", new PartitionBench().owner(63), -1);
        check.due("the whole disk", Texts.bench("disk 64;part 0 64 0 1;").owner(63), 0);
    }

    /** Two whole chunks from 24 to 31: the sectors beside FROM and TO belong to none at any step. */
    private static void ownersBesideAMove(String where, int to) {
        PartitionBench b = Texts.bench("disk 64;part 0 1 0 1;part 24 8 0 1;");
        b.begin(1, to);
        for (int step = 0; step < 3; step++) {
            check.due(where + ", step " + step + ", beside FROM", b.owner(23) + " " + b.owner(32), "-1 -1");
            check.due(where + ", step " + step + ", beside TO", b.owner(to - 1) + " " + b.owner(to + 8), "-1 -1");
            int owned = 0;
            for (int s = 0; s < 64; s++) {
                owned += b.owner(s) == 1 ? 1 : 0;
            }
            check.due(where + ", step " + step + ", as many sectors as blocks", owned, 8);
            if (step < 2) {
                b.run(1);
            }
        }
    }

    private static void promise11Place() {
        check.at("promise 11");
        PartitionBench b = Texts.bench(TEXT);
        check.due("place(0, 0)", b.place(0, 0), 8);
        check.due("place(0, 9)", b.place(0, 9), 17);
        check.throwsDue("block 10", IndexOutOfBoundsException.class, () -> b.place(0, 10));
        check.throwsDue("block -1", IndexOutOfBoundsException.class, () -> b.place(0, -1));
        check.throwsDue("block least", IndexOutOfBoundsException.class, () -> b.place(0, Integer.MIN_VALUE));
        check.throwsDue("block greatest", IndexOutOfBoundsException.class, () -> b.place(0, Integer.MAX_VALUE));
        check.throwsDue("part 3, block -1", java.util.NoSuchElementException.class, () -> b.place(3, -1));
        check.throwsDue("part 3", java.util.NoSuchElementException.class, () -> b.place(3, 0));
        check.throwsDue("part 8", java.util.NoSuchElementException.class, () -> b.place(8, 0));
        check.throwsDue("part -1", java.util.NoSuchElementException.class, () -> b.place(-1, 0));
        b.set(3, 1);
        b.begin(0, 10);
        b.run(2);
        String places = "";
        for (int block = 0; block < 10; block++) {
            places += b.place(0, block) + " ";
        }
        check.due("in three areas", places, "8 9 10 11 12 13 92 93 94 19 ");
        b.run(99);
        check.due("behind the move", b.place(0, 9), 19);
        PartitionBench ones = Texts.bench("disk 64;chunk 1;part 20 3 0 1;");
        ones.begin(0, 19);
        ones.run(1);
        check.due("chunks of 1", ones.place(0, 0) + " " + ones.place(0, 1) + " " + ones.place(0, 2), "19 21 22");
        ones.run(1);
        check.due("chunks of 1, two moved", ones.place(0, 0) + " " + ones.place(0, 1) + " " + ones.place(0, 2), "19 20 22");
        check.throwsDue("block 3 in a move", IndexOutOfBoundsException.class, () -> ones.place(0, 3));
        check.throwsDue("block -1 in a move", IndexOutOfBoundsException.class, () -> ones.place(0, -1));
    }

    private static void promise12IsWhole() {
        check.at("promise 12");
        PartitionBench b = Texts.bench(TEXT);
        b.set(3, 1);
        b.begin(0, 9);
        for (int i = 0; b.move(0) >= 0 && i < 100; i++) {
            check.due("whole behind step " + i, b.isWhole(0), true);
            b.tear();
            check.due("whole behind a torn step " + i, b.isWhole(0), true);
            b.run(1);
        }
        check.due("whole behind the move", b.isWhole(0), true);
        check.due("another one", b.isWhole(2), true);
        for (int part : new int[] {3, 8, -1}) {
            check.throwsDue("part " + part, java.util.NoSuchElementException.class, () -> b.isWhole(part));
        }
    }

    private static void promise13ByStart() {
        check.at("promise 13");
        PartitionBench b = Texts.bench(TEXT);
        check.due("byStart(0)", b.byStart(0), 0);
        check.due("byStart(1)", b.byStart(1), 2);
        check.due("byStart(2)", b.byStart(2), 1);
        check.due("byStart(3)", b.byStart(3), -1);
        check.due("byStart(greatest)", b.byStart(Integer.MAX_VALUE), -1);
        check.throwsDue("byStart(-1)", IndexOutOfBoundsException.class, () -> b.byStart(-1));
        check.throwsDue("byStart(least)", IndexOutOfBoundsException.class, () -> b.byStart(Integer.MIN_VALUE));
        check.due("none", new PartitionBench().byStart(0), -1);
        check.throwsDue("none, byStart(-1)", IndexOutOfBoundsException.class, () -> new PartitionBench().byStart(-1));
        PartitionBench eight = Texts.bench("disk 64;part 14 1 0 1;part 12 1 0 1;part 10 1 0 1;part 8 1 0 1;"
            + "part 6 1 0 1;part 4 1 0 1;part 2 1 0 1;part 0 1 0 1;");
        for (int i = 0; i < 8; i++) {
            check.due("of eight, byStart(" + i + ")", eight.byStart(i), 7 - i);
        }
        check.due("of eight, byStart(8)", eight.byStart(8), -1);
        PartitionBench beside = Texts.bench("disk 64;part 8 8 0 1;part 0 8 0 1;part 16 48 0 1;");
        check.due("side by side", "" + beside.byStart(0) + beside.byStart(1) + beside.byStart(2), "102");
        check.due("behind, side by side", "" + beside.behind(1) + beside.behind(0) + beside.behind(2), "02-1");
    }

    private static void promise14Gap() {
        check.at("promise 14");
        PartitionBench b = Texts.bench(TEXT);
        int[][] due = {{3, 5, 4, 4}, {18, 6, 20, 4}, {30, 2, -1, 0}, {40, 55, 40, 55}};
        for (int g = 0; g < due.length; g++) {
            for (int what = 0; what < 4; what++) {
                check.due("gap(" + g + ", " + what + ")", b.gap(g, what), due[g][what]);
            }
        }
        for (int gap : new int[] {4, -1, 99, Integer.MAX_VALUE, Integer.MIN_VALUE}) {
            check.throwsDue("gap " + gap, IndexOutOfBoundsException.class, () -> b.gap(gap, 0));
        }
        check.throwsDue("what 4", IllegalArgumentException.class, () -> b.gap(0, 4));
        check.throwsDue("what -1", IllegalArgumentException.class, () -> b.gap(0, -1));
        check.throwsDue("what greatest", IllegalArgumentException.class, () -> b.gap(0, Integer.MAX_VALUE));
        check.throwsDue("what least", IllegalArgumentException.class, () -> b.gap(0, Integer.MIN_VALUE));
        check.throwsDue("gap 4, what 4", IndexOutOfBoundsException.class, () -> b.gap(4, 4));
        PartitionBench one = Texts.bench("disk 65;align 32;part 0 40 0 1;");
        check.due("a room of 1", one.gap(0, 2) * 10 + one.gap(0, 3), 641);
        PartitionBench full = Texts.bench(FULL);
        check.throwsDue("no gaps", IndexOutOfBoundsException.class, () -> full.gap(0, 0));
        PartitionBench first = new PartitionBench();
        check.due("the whole disk", first.gap(0, 0) + " " + first.gap(0, 1) + " " + first.gap(0, 2) + " " + first.gap(0, 3),
            "0 64 0 64");
        PartitionBench ends = Texts.bench("disk 64;align 8;part 0 63 0 1;");
        check.due("a gap of 1, its room is empty", ends.gap(0, 0) + " " + ends.gap(0, 1) + " " + ends.gap(0, 2) + " "
            + ends.gap(0, 3), "63 1 -1 0");
    }

    private static void promise15LargestGap() {
        check.at("promise 15");
        check.due("the last one", Texts.bench(TEXT).largestGap(), 55);
        check.due("the first one", Texts.bench("disk 64;part 50 4 0 1;").largestGap(), 50);
        check.due("without gaps", Texts.bench(FULL).largestGap(), 0);
        check.due("a new object", new PartitionBench().largestGap(), 64);
        // The gap has 39 sectors, its room 20.
        PartitionBench b = Texts.bench("disk 64;head 1;align 20;part 40 4 0 1;part 60 3 0 1;");
        check.due("the size, not the room", b.largestGap(), 39);
        b.add(20, 1, 0, 1);
        check.due("of equal ones", b.largestGap(), 19);
    }

    private static void promise16Fit() {
        check.at("promise 16");
        PartitionBench b = Texts.bench(TEXT);
        int[][] due = {{1, 0, 4}, {1, 1, 4}, {1, 2, 40}, {4, 0, 4}, {5, 0, 40}, {5, 1, 40}, {55, 0, 40}, {55, 1, 40},
            {55, 2, 40}, {56, 0, -1}, {56, 1, -1}, {56, 2, -1}, {0, 0, -1}, {-1, 1, -1}, {Integer.MIN_VALUE, 2, -1},
            {Integer.MAX_VALUE, 0, -1}};
        for (int[] d : due) {
            check.due("fit(" + d[0] + ", " + d[1] + ")", b.fit(d[0], d[1]), d[2]);
        }
        check.throwsDue("rule 3", IllegalArgumentException.class, () -> b.fit(1, 3));
        check.throwsDue("rule -1", IllegalArgumentException.class, () -> b.fit(1, -1));
        check.throwsDue("size 0, rule 3", IllegalArgumentException.class, () -> b.fit(0, 3));
        check.throwsDue("rule greatest", IllegalArgumentException.class, () -> b.fit(1, Integer.MAX_VALUE));
        check.throwsDue("rule least", IllegalArgumentException.class, () -> b.fit(1, Integer.MIN_VALUE));
        check.throwsDue("no start, rule -1", IllegalArgumentException.class, () -> b.fit(999, -1));
        PartitionBench gaps = Texts.bench("disk 64;part 10 5 0 1;part 20 5 0 1;part 30 30 0 1;");
        check.due("the first one", gaps.fit(3, 0), 0);
        check.due("the first one of two with the least room", gaps.fit(5, 1), 15);
        check.due("the least room", gaps.fit(3, 1), 60);
        check.due("the least room that is enough", gaps.fit(6, 1), 0);
        check.due("the most room", gaps.fit(3, 2), 0);
        PartitionBench tie = Texts.bench("disk 68;part 10 4 0 1;part 34 4 0 1;part 58 10 0 1;");
        check.due("the first one of two with the most room", tie.fit(3, 2), 14);
        check.due("no gap", Texts.bench(FULL).fit(1, 0), -1);
        // The first gap has 9 sectors and a room of 2, from 16; the second one 6 and a room of 6, from 24.
        PartitionBench rooms = Texts.bench("disk 64;part 0 9 0 1;part 18 6 0 1;part 30 34 0 1;");
        rooms.set(3, 8);
        check.due("rooms count, not gaps", rooms.fit(1, 0) + " " + rooms.fit(1, 1) + " " + rooms.fit(1, 2), "16 16 24");
        check.due("a room that is enough", rooms.fit(3, 0) + " " + rooms.fit(3, 1) + " " + rooms.fit(3, 2), "24 24 24");
        // The other way round: a room of 6 from 8, then 9 sectors with a room of 2 from 24.
        PartitionBench turned = Texts.bench("disk 64;part 0 8 0 1;part 14 3 0 1;part 26 38 0 1;");
        turned.set(3, 8);
        check.due("the least room is in the greater gap", turned.fit(1, 1) + " " + turned.fit(1, 2), "24 8");
        // Rooms of 6 from 8 and from 24: a tie, though the second gap has 12 sectors.
        PartitionBench equal = Texts.bench("disk 64;part 0 8 0 1;part 14 4 0 1;part 30 34 0 1;");
        equal.set(3, 8);
        check.due("a tie of rooms", equal.fit(1, 1) + " " + equal.fit(1, 2), "8 8");
        PartitionBench whole = new PartitionBench();
        check.due("all sectors", whole.fit(64, 0) + whole.fit(64, 1) + whole.fit(64, 2), 0);
        check.due("one more", whole.fit(65, 0) + whole.fit(65, 1) + whole.fit(65, 2), -3);
        // The gap has 7 sectors, its room 4.
        PartitionBench room = Texts.bench("disk 64;align 8;part 0 5 0 1;part 16 48 0 1;");
        check.due("the room counts", room.fit(8, 0) * 100 + room.fit(9, 0), 799);
    }

    private static void promise17Reason() {
        check.at("promise 17");
        PartitionBench b = Texts.bench(TEXT);
        int big = Integer.MAX_VALUE;
        int low = Integer.MIN_VALUE;
        int[][] due = {{4, 4, 0}, {4, 5, 3}, {2, 3, 1}, {3, 1, 2}, {4, 0, 1}, {4, -1, 1}, {4, low, 1}, {92, 3, 0},
            {92, 4, 1}, {96, 1, 1}, {100, 1, 1}, {93, 5, 1}, {16, 4, 3}, {16, 1, 3}, {20, 4, 0}, {20, 5, 3}, {9, 1, 2},
            {-4, 8, 1}, {0, 4, 1}, {big, big, 1}, {low, big, 1}, {low, low, 1}, {4, big, 1}, {40, 55, 0}, {40, 56, 1},
            {28, 4, 3}, {28, 6, 3}, {4, 60, 3}};
        for (int[] d : due) {
            check.due("reason(" + d[0] + ", " + d[1] + ")", b.reason(d[0], d[1]), d[2]);
        }
        b.begin(1, 60);
        int[][] moving = {{60, 1, 4}, {56, 4, 0}, {56, 5, 4}, {64, 4, 4}, {68, 4, 0}, {32, 1, 3}, {39, 30, 2},
            {36, 30, 3}};
        for (int[] d : moving) {
            check.due("while one is moved, reason(" + d[0] + ", " + d[1] + ")", b.reason(d[0], d[1]), d[2]);
        }
    }

    private static void promise18Overlapped() {
        check.at("promise 18");
        PartitionBench b = Texts.bench(TEXT);
        int big = Integer.MAX_VALUE;
        int low = Integer.MIN_VALUE;
        int[][] due = {{0, 100, 7}, {17, 8, 5}, {18, 6, 0}, {-5, 14, 1}, {-5, 13, 0}, {39, big, 2}, {40, big, 0},
            {low, big, 0}, {-1, big, 7}, {big, big, 0}, {10, 0, 0}, {10, -1, 0}, {10, low, 0}, {29, 4, 6}, {24, 1, 4},
            {low, low, 0}, {big, 1, 0}, {0, 8, 0}, {0, 9, 1}, {8, 1, 1}, {17, 1, 1}, {39, 1, 2}, {95, 5, 0}, {8, 10, 1}};
        for (int[] d : due) {
            check.due("overlapped(" + d[0] + ", " + d[1] + ")", b.overlapped(d[0], d[1]), d[2]);
        }
        b.begin(1, 60);
        b.run(1);
        check.due("a partition that is moved is at FROM", b.overlapped(32, 8), 2);
        check.due("not at TO", b.overlapped(60, 8), 0);
    }

    private static void promise39Waste() {
        check.at("promise 39");
        PartitionBench b = Texts.bench(TEXT);
        check.due("waste()", b.waste(), 5);
        b.set(3, 1);
        check.due("ALIGN 1", b.waste(), 0);
        b.set(3, 32);
        check.due("ALIGN 32", b.waste(), 5 + 6 + 2 + 24);
        check.due("full", Texts.bench(FULL).waste(), 0);
        check.due("a gap that is all room", new PartitionBench().waste(), 0);
        check.due("a gap without a room", Texts.bench("disk 64;align 8;part 0 63 0 1;").waste(), 1);
    }

    private static void promise40Scatter() {
        check.at("promise 40");
        check.due("scatter()", Texts.bench(TEXT).scatter(), 1f - 55f / 68f);
        check.due("one gap", new PartitionBench().scatter(), 0f);
        check.due("no gap", Texts.bench(FULL).scatter(), 0f);
        check.due("a gap of 1", Texts.bench("disk 64;part 0 63 0 1;").scatter(), 0f);
        check.due("two gaps of 1", Texts.bench("disk 64;part 1 62 0 1;").scatter(), 0.5f);
        check.due("two gaps", Texts.bench("disk 64;part 30 4 0 1;").scatter(), 0.5f);
        check.due("a third", Texts.bench("disk 64;part 20 4 0 1;").scatter(), 1f - 40f / 60f);
    }

    private static void promise41Used() {
        check.at("promise 41");
        PartitionBench b = Texts.bench(TEXT);
        check.due("used()", b.used(), 24.0 / 92.0);
        b.begin(1, 60);
        b.run(1);
        check.due("a partition that is moved counts once", b.used(), 24.0 / 92.0);
        b.run(99);
        b.remove(1);
        check.due("one removed", b.used(), 16.0 / 92.0);
        PartitionBench two = Texts.bench("disk 64;part 0 8 0 1;part 8 8 0 1;");
        two.join(0);
        check.due("two joined", two.used(), 0.25);
        two.remove(0);
        check.due("all removed", two.used(), 0.0);
        check.due("full", Texts.bench(FULL).used(), 1.0);
        check.due("empty", new PartitionBench().used(), 0.0);
        check.due("two usable", Texts.bench("disk 64;head 31;tail 31;part 31 1 0 1;").used(), 0.5);
    }

    private static void promise42Slack() {
        check.at("promise 42");
        PartitionBench b = Texts.bench(TEXT);
        check.due("slack()", b.slack(), 6 + 6);
        b.lock(2, false);
        check.due("one freed", b.slack(), 6 + 6 + 3);
        b.begin(0, 44);
        check.due("one moved", b.slack(), 6 + 3);
        b.run(99);
        check.due("moved no more", b.slack(), 6 + 6 + 3);
        check.due("none", new PartitionBench().slack(), 0);
        check.due("all have their minimum", Texts.bench("disk 64;part 0 4 0 4;part 8 1 0 1;").slack(), 0);
        check.due("as much as can be", Texts.bench("disk 600;part 0 600 0 1;").slack(), 599);
    }

    private static void promise43OfKind() {
        check.at("promise 43");
        PartitionBench b = Texts.bench(TEXT);
        check.due("ofKind(1)", b.ofKind(1), 18);
        check.due("ofKind(2)", b.ofKind(2), 6);
        check.due("ofKind(0)", b.ofKind(0), 0);
        check.due("ofKind(9)", b.ofKind(9), 0);
        b.add(40, 7, 9, 1);
        b.add(60, 5, 0, 1);
        check.due("ofKind(9)", b.ofKind(9), 7);
        check.due("ofKind(0)", b.ofKind(0), 5);
        b.remove(0);
        check.due("one removed", b.ofKind(1), 8);
        check.throwsDue("ofKind(10)", IllegalArgumentException.class, () -> b.ofKind(10));
        check.throwsDue("ofKind(-1)", IllegalArgumentException.class, () -> b.ofKind(-1));
        check.throwsDue("ofKind(greatest)", IllegalArgumentException.class, () -> b.ofKind(Integer.MAX_VALUE));
        check.throwsDue("ofKind(least)", IllegalArgumentException.class, () -> b.ofKind(Integer.MIN_VALUE));
        b.begin(1, 48);
        check.due("one that is moved counts once", b.ofKind(1), 8);
    }

    private static void promise45Copies() {
        check.at("promise 45");
        PartitionBench b = Texts.bench(TEXT);
        check.due("none", b.copies(0), 0);
        b.begin(0, 44);
        b.tear();
        check.due("a torn step: the last chunk has one block", b.copies(0), 0);
        b.run(1);
        b.tear();
        check.due("an old one and a torn one", b.copies(0), 2);
        b.run(99);
        check.due("all are left over", b.copies(0), 10);
        check.due("of another one", b.copies(1), 0);
        b.resize(0, 4);
        check.due("blocks that it has no more do not count", b.copies(0), 4);
        b.add(8, 3, 0, 1);
        check.due("some are overwritten", b.copies(0), 1);
        b.wipe();
        check.due("wiped", b.copies(0), 0);
        copiesByTheScratchArea();
        PartitionBench first = Texts.bench("disk 64;part 0 4 0 1;");
        first.begin(0, 60);
        first.run(9);
        check.due("from the first sector to the last one", first.copies(0), 4);
        check.throwsDue("part 5", java.util.NoSuchElementException.class, () -> b.copies(5));
        check.throwsDue("part -1", java.util.NoSuchElementException.class, () -> b.copies(-1));
        check.throwsDue("part 8", java.util.NoSuchElementException.class, () -> b.copies(8));
    }

    /** Two chunks of 4, one sector to the right, by the scratch area 60 to 63. */
    private static void copiesByTheScratchArea() {
        PartitionBench b = Texts.bench("disk 64;part 20 8 0 1;");
        b.begin(0, 21);
        int[] behindTorn = {2, 4, 5, 5};
        int[] behindDone = {4, 5, 5, 5};
        for (int step = 0; step < 4; step++) {
            b.tear();
            check.due("step " + step + " torn", b.copies(0), behindTorn[step]);
            b.run(1);
            check.due("step " + step + " done", b.copies(0), behindDone[step]);
        }
        check.due("the move ended", b.move(0), -1);
    }

    private static void promise53Behind() {
        check.at("promise 53");
        PartitionBench b = Texts.bench(TEXT);
        check.due("behind(0)", b.behind(0), 2);
        check.due("behind(2)", b.behind(2), 1);
        check.due("behind(1)", b.behind(1), -1);
        b.begin(0, 60);
        check.due("one that is moved is at FROM", b.behind(0) + " " + b.behind(1), "2 -1");
        check.due("alone", Texts.bench("disk 64;part 0 64 0 1;").behind(0), -1);
        for (int part : new int[] {3, 8, -1}) {
            check.throwsDue("part " + part, java.util.NoSuchElementException.class, () -> b.behind(part));
        }
    }

    private static void promise54GapAt() {
        check.at("promise 54");
        PartitionBench b = Texts.bench(TEXT);
        int[][] due = {{0, -1}, {2, -1}, {3, 0}, {7, 0}, {8, -1}, {17, -1}, {18, 1}, {23, 1}, {24, -1}, {31, 2}, {40, 3},
            {94, 3}, {95, -1}, {99, -1}};
        for (int[] d : due) {
            check.due("gapAt(" + d[0] + ")", b.gapAt(d[0]), d[1]);
        }
        for (int sector : new int[] {100, -1, Integer.MAX_VALUE, Integer.MIN_VALUE}) {
            check.throwsDue("sector " + sector, IndexOutOfBoundsException.class, () -> b.gapAt(sector));
        }
    }

    private static void promise55Verify() {
        check.at("promise 55");
        PartitionBench b = Texts.bench(TEXT);
        check.due("verify()", b.verify(), 7);
        b.remove(0);
        check.due("one removed", b.verify(), 6);
        b.begin(1, 60);
        b.tear();
        b.run(1);
        check.due("in a move", b.verify(), 6);
        check.due("none", new PartitionBench().verify(), 0);
        check.due("eight", Texts.bench("disk 64;part 14 1 0 1;part 12 1 0 1;part 10 1 0 1;part 8 1 0 1;"
            + "part 6 1 0 1;part 4 1 0 1;part 2 1 0 1;part 0 1 0 1;").verify(), 255);
    }

    /** TO and the scratch area are in no gap while the move is on. */
    private static void gapsOfAMove() {
        check.at("gaps of a move");
        PartitionBench b = Texts.bench("disk 64;part 10 8 0 1;");
        b.begin(0, 8);
        check.due("TO is 8 to 15, the scratch area 60 to 63", gaps(b), "0+8 18+42 ");
        check.due("gapAt(9)", b.gapAt(9), -1);
        check.due("gapAt(60)", b.gapAt(60), -1);
        check.due("gapAt(59)", b.gapAt(59), 1);
        b.add(50, 10, 0, 1);
        b.turnBack();
        check.due("turned back, the busy areas are free again", b.gapAt(60), 2);
        PartitionBench many = Texts.bench("disk 64;part 2 3 0 1;part 6 1 0 1;part 8 1 0 1;part 10 1 0 1;part 12 1 0 1;"
            + "part 14 1 0 1;part 16 1 0 1;part 62 1 0 1;");
        many.begin(0, 1);
        check.due("the greatest scratch area is 59 to 61", many.move(3), 59);
        check.due("many gaps", many.count(7), 9);
        check.due("the last of them", many.gap(8, 0), 63);
    }

    /** The first and the last sector of TO and of the scratch area, and those beside them. */
    private static void endsOfBusyAreas() {
        check.at("ends of busy areas");
        // TO is 20 to 27, no scratch area.
        PartitionBench far = Texts.bench("disk 64;part 0 8 0 1;");
        far.begin(0, 20);
        check.due("ahead of TO, its first and last sector, behind it",
            "" + far.reason(19, 1) + far.reason(20, 1) + far.reason(27, 1) + far.reason(28, 1), "0440");
        // TO is 11 to 18; the scratch area is 56 to 59, and the sectors behind it are free again.
        PartitionBench near = Texts.bench("disk 64;part 10 8 0 1;part 60 4 0 1;");
        near.begin(0, 11);
        near.remove(1);
        check.due("the last sector of TO, behind it", "" + near.reason(18, 1) + near.reason(19, 1), "40");
        check.due("ahead of the scratch area, its first and last sector, behind it",
            "" + near.reason(55, 1) + near.reason(56, 1) + near.reason(59, 1) + near.reason(60, 1), "0440");
        check.due("gaps", gaps(near), "0+10 19+37 60+4 ");
        check.due("gapAt", near.gapAt(18) + " " + near.gapAt(19) + " " + near.gapAt(59) + " " + near.gapAt(60), "-1 1 -1 2");
        // The scratch area of a partition that is shorter than CHUNK: 57 to 59.
        PartitionBench small = Texts.bench("disk 64;chunk 16;part 10 3 0 1;part 60 4 0 1;");
        small.begin(0, 12);
        small.remove(1);
        check.due("gaps beside a short scratch area", gaps(small), "0+10 15+42 60+4 ");
        check.due("behind it", "" + small.reason(59, 1) + small.reason(60, 1), "40");
        PartitionBench behind = Texts.bench("disk 64;part 51 8 0 1;");
        behind.begin(0, 52);
        check.due("the scratch area directly behind TO", behind.move(3) + ": " + gaps(behind), "60: 0+51 ");
        PartitionBench one = Texts.bench("disk 64;part 0 8 0 1;");
        one.begin(0, 9);
        check.due("one sector ahead of TO", gaps(one), "8+1 17+47 ");
        PartitionBench last = Texts.bench("disk 64;part 10 8 0 1;part 40 19 0 1;");
        last.begin(0, 9);
        check.due("one sector ahead of the scratch area", gaps(last), "0+9 18+22 59+1 ");
        PartitionBench ahead = Texts.bench("disk 64;part 57 7 0 1;");
        ahead.begin(0, 56);
        check.due("the scratch area directly ahead of TO", ahead.move(3) + ": " + gaps(ahead), "52: 0+52 ");
    }

    private static String gaps(PartitionBench b) {
        String gaps = "";
        for (int g = 0; g < b.count(7); g++) {
            gaps += b.gap(g, 0) + "+" + b.gap(g, 1) + " ";
        }
        return gaps;
    }

    private static void areasOfAMoveTurnedBack() {
        check.at("areas of a move that is turned back");
        PartitionBench b = Texts.bench("disk 64;part 0 8 0 1;");
        b.begin(0, 40);
        b.run(1);
        check.due("FROM and TO", b.reason(0, 8) + " " + b.reason(40, 8), "3 4");
        check.due("the partition", b.overlapped(0, 8) + " " + b.overlapped(40, 8), "1 0");
        b.turnBack();
        check.due("FROM and TO exchanged", b.reason(0, 8) + " " + b.reason(40, 8), "4 3");
        check.due("the partition is at FROM", b.overlapped(0, 8) + " " + b.overlapped(40, 8), "0 1");
        check.due("gaps", gaps(b), "8+32 48+16 ");
        check.due("print", Texts.print(b), "0[40,8]>");
        check.due("a move that is on its way back counts once", b.used(), 0.125);
        b.run(9);
        check.due("ended, FROM", b.reason(40, 8), 0);
        check.due("ended, TO", b.reason(0, 8), 3);
    }

    private static void gapsThatAreGone() {
        check.at("gaps that are gone");
        PartitionBench b = Texts.bench("disk 64;part 10 11 0 1;");
        b.set(3, 8);
        check.due("two gaps", gaps(b), "0+10 21+43 ");
        check.due("waste()", b.waste(), 3);
        b.set(3, 1);
        b.add(21, 43, 0, 1);
        b.set(3, 8);
        check.due("one is filled", gaps(b), "0+10 ");
        check.due("count(6)", b.count(6), 10);
        check.due("largestGap()", b.largestGap(), 10);
        check.due("waste()", b.waste(), 0);
        check.due("scatter()", b.scatter(), 0f);
        check.due("gapAt(30)", b.gapAt(30), -1);
        check.due("fit(11, 0)", b.fit(11, 0), -1);
        check.due("fit(1, 2)", b.fit(1, 2), 0);
        check.due("cheapestMove(40)", b.cheapestMove(40), -1);
        check.throwsDue("gap(1, 0)", IndexOutOfBoundsException.class, () -> b.gap(1, 0));
    }

    private static void noGapsWhileAMoveIsOn() {
        check.at("no gaps while a move is on");
        PartitionBench b = Texts.bench("disk 64;part 0 32 0 1;");
        b.begin(0, 32);
        check.due("count(6), count(7)", b.count(6) + " " + b.count(7), "0 0");
        check.throwsDue("gap(0, 0)", IndexOutOfBoundsException.class, () -> b.gap(0, 0));
        check.due("largestGap()", b.largestGap(), 0);
        check.due("waste()", b.waste(), 0);
        check.due("scatter()", b.scatter(), 0f);
        check.due("used()", b.used(), 0.5);
        check.due("fit(1, 0)", b.fit(1, 0), -1);
        check.due("gapAt(40)", b.gapAt(40), -1);
        check.throwsDue("addBy", IllegalStateException.class, () -> b.addBy(1, 0, 1, 0));
    }
}

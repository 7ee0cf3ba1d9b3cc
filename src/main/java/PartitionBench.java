import java.util.NoSuchElementException;

/** A bench for the partitions of a disk. Promises and terms are those of the project's document. */
public final class PartitionBench {
    public static final int NO_ERROR = 0;
    public static final int SYNTAX = 1;
    public static final int OUT_OF_RANGE = 2;
    public static final int TWICE = 3;
    public static final int TAKEN = 4;
    public static final int TOO_MANY = 5;

    private static final int NONE = -1;
    private static final int LEAST_SECTORS = 64;
    private static final int MOST_SECTORS = 600;
    private static final int MOST_RESERVED = 31;
    private static final int MOST_ALIGN = 32;
    private static final int MOST_CHUNK = 16;
    private static final int FIRST_ALIGN = 1;
    private static final int FIRST_CHUNK = 4;
    private static final int MOST_PARTS = 8;
    private static final int MOST_KIND = 9;
    private static final int MOST_STEPS = 999;
    private static final int MOST_UNDONE = 10;
    private static final int NUMBERS_OF_A_SERIAL = 1000;

    private static final int MOST_BYTES = 500;
    private static final int MOST_DIGITS = 3;
    private static final int SPACE = 32;
    private static final int LINE_FEED = 10;

    private static final int WHAT_ALIGN = 3;
    private static final int WHAT_CHUNK = 4;

    private static final int FIRST_FIT = 0;
    private static final int LEAST_ROOM = 1;
    private static final int MOST_ROOM = 2;

    private static final int OLD_TO_NEW = 0;
    private static final int OLD_TO_SCRATCH = 1;
    private static final int SCRATCH_TO_NEW = 2;

    private final Disk disk = new Disk();
    /** What is asked about the future, and a text that may turn out wrong, is worked out here. */
    private final Disk ahead = new Disk();
    private final Disk saved = new Disk();
    private boolean isSaved;
    private final History history = new History();
    private final Gaps gaps = new Gaps();
    private final Setup setup = new Setup();
    private final Output output = new Output();

    public PartitionBench() {
        disk.clear(LEAST_SECTORS);
    }

    // ---- the setup text

    public int appendInput(int a, int b, int c, int d, int e) {
        if (!setup.hasRoomFor(20)) {
            return -1;
        }
        setup.putBytes(a);
        setup.putBytes(b);
        setup.putBytes(c);
        setup.putBytes(d);
        setup.putBytes(e);
        return setup.length;
    }

    public boolean truncateInput(int length) {
        if (length < 0 || length > setup.length) {
            return false;
        }
        setup.length = length;
        return true;
    }

    public int loadDisk() {
        boolean isRight = setup.parseInto(ahead);
        setup.length = 0;
        if (!isRight) {
            return -1;
        }
        disk.copyFrom(ahead);
        history.forget();
        isSaved = false;
        output.empty();
        return disk.standing();
    }

    public int errorCode() {
        return setup.error;
    }

    public int errorOffset() {
        return setup.errorAt;
    }

    // ---- what stands on the disk

    public int count(int what) throws IllegalArgumentException {
        switch (what) {
            case 0: return disk.length;
            case 1: return disk.head;
            case 2: return disk.tail;
            case WHAT_ALIGN: return disk.align;
            case WHAT_CHUNK: return disk.chunk;
            case 5: return disk.standing();
            case 6: return gapsNow().sectors();
            case 7: return gapsNow().found;
            case 8: return disk.stepsDone;
            case 9: return disk.stepsTorn;
            case 10: return disk.movesEnded;
            case 11: return history.kept;
            default: throw new IllegalArgumentException("what is out of range");
        }
    }

    public int part(int part, int what) throws IllegalArgumentException, NoSuchElementException {
        if (what < 0 || what > 6) {
            throw new IllegalArgumentException("what is out of range");
        }
        Part p = need(part);
        switch (what) {
            case 0: return p.start;
            case 1: return p.size;
            case 2: return p.minimum;
            case 3: return p.kind;
            case 4: return p.locked ? 1 : 0;
            case 5: return p.serial;
            default: return p.ended;
        }
    }

    public int sector(int sector) throws IndexOutOfBoundsException {
        needSector(sector);
        return disk.numberAt(sector);
    }

    public int owner(int sector) throws IndexOutOfBoundsException {
        needSector(sector);
        return disk.holderOf(sector);
    }

    public int place(int part, int block) throws IndexOutOfBoundsException, NoSuchElementException {
        Part p = need(part);
        if (block < 0 || block >= p.size) {
            throw new IndexOutOfBoundsException("no such block");
        }
        return disk.placeOf(p, block);
    }

    public boolean isWhole(int part) throws NoSuchElementException {
        return disk.keepsWhole(need(part));
    }

    public int byStart(int index) throws IndexOutOfBoundsException {
        if (index < 0) {
            throw new IndexOutOfBoundsException("index is negative");
        }
        if (index >= MOST_PARTS) {
            return -1;
        }
        Part p = disk.nextBehind(-1);
        for (int i = 0; i < index && p != null; i++) {
            p = disk.nextBehind(p.start);
        }
        return p == null ? -1 : p.number;
    }

    public int behind(int part) throws NoSuchElementException {
        Part next = disk.nextBehind(need(part).start);
        return next == null ? -1 : next.number;
    }

    public int overlapped(int start, int size) {
        return size < 1 ? 0 : disk.meeting(start, size);
    }

    public double used() {
        int usable = disk.usableEnd() - disk.head;
        return usable < 1 ? 0.0 : (double) disk.takenByParts() / (double) usable;
    }

    public int slack() {
        int sectors = 0;
        for (Part p : disk.parts) {
            if (disk.isFree(p)) {
                sectors += p.size - p.minimum;
            }
        }
        return sectors;
    }

    public int ofKind(int kind) throws IllegalArgumentException {
        if (kind < 0 || kind > MOST_KIND) {
            throw new IllegalArgumentException("kind is out of range");
        }
        int sectors = 0;
        for (Part p : disk.parts) {
            if (p.stands() && p.kind == kind) {
                sectors += p.size;
            }
        }
        return sectors;
    }

    public int copies(int part) throws NoSuchElementException {
        return disk.leftOverOf(need(part));
    }

    public int verify() {
        int mask = 0;
        for (Part p : disk.parts) {
            if (p.stands() && disk.keepsWhole(p)) {
                mask |= 1 << p.number;
            }
        }
        return mask;
    }

    // ---- gaps

    public int gap(int gap, int what) throws IndexOutOfBoundsException, IllegalArgumentException {
        Gaps now = gapsNow();
        if (gap < 0 || gap >= now.found) {
            throw new IndexOutOfBoundsException("no such gap");
        }
        switch (what) {
            case 0: return now.start(gap);
            case 1: return now.size(gap);
            case 2: return now.room(gap) > 0 ? now.roomStart(gap) : -1;
            case 3: return now.room(gap);
            default: throw new IllegalArgumentException("what is out of range");
        }
    }

    public int largestGap() {
        return gapsNow().largest();
    }

    public int fit(int size, int rule) throws IllegalArgumentException {
        needRule(rule);
        return gapsNow().startFor(size, rule);
    }

    public int waste() {
        Gaps now = gapsNow();
        return now.sectors() - now.sectorsOfRooms();
    }

    public float scatter() {
        Gaps now = gapsNow();
        int sectors = now.sectors();
        return sectors < 1 ? 0.0f : 1.0f - (float) now.largest() / (float) sectors;
    }

    public int gapAt(int sector) throws IndexOutOfBoundsException {
        needSector(sector);
        return gapsNow().holding(sector);
    }

    // ---- making, changing and removing partitions

    public int reason(int start, int size) {
        return disk.whyNotTake(start, size);
    }

    public int add(int start, int size, int kind, int minimum)
            throws IllegalArgumentException, IllegalStateException {
        needKindAndMinimum(kind, minimum, size);
        if (disk.whyNotTake(start, size) != 0) {
            throw new IllegalArgumentException("the area cannot take a partition");
        }
        needNumberLeft();
        history.note(disk);
        return disk.make(start, size, kind, minimum);
    }

    public int addBy(int size, int kind, int minimum, int rule)
            throws IllegalArgumentException, IllegalStateException {
        needKindAndMinimum(kind, minimum, size);
        needRule(rule);
        needNumberLeft();
        int start = gapsNow().startFor(size, rule);
        if (start < 0) {
            throw new IllegalStateException("there is no start");
        }
        history.note(disk);
        return disk.make(start, size, kind, minimum);
    }

    public int remove(int part) throws IllegalStateException, NoSuchElementException {
        Part p = need(part);
        needFree(p);
        history.note(disk);
        int size = p.size;
        p.size = 0;
        return size;
    }

    public boolean lock(int part, boolean on) throws NoSuchElementException {
        Part p = need(part);
        history.note(disk);
        boolean before = p.locked;
        p.locked = on;
        return before;
    }

    public int resizeReason(int part, int size) throws NoSuchElementException {
        return disk.whyNotSize(need(part), size);
    }

    public int resize(int part, int size) throws IllegalStateException, NoSuchElementException {
        Part p = need(part);
        needSizeFor(p, size);
        history.note(disk);
        int before = p.size;
        disk.giveSize(p, size);
        return before;
    }

    public int roundUp(int part) throws IllegalStateException, NoSuchElementException {
        Part p = need(part);
        int size = roundedUp(p.size, disk.align);
        needSizeFor(p, size);
        history.note(disk);
        disk.giveSize(p, size);
        return size;
    }

    public int setMinimum(int part, int minimum) throws IllegalArgumentException, NoSuchElementException {
        Part p = need(part);
        if (minimum < 1 || minimum > p.size) {
            throw new IllegalArgumentException("minimum is out of range");
        }
        history.note(disk);
        int before = p.minimum;
        p.minimum = minimum;
        return before;
    }

    public int growsTo(int part) throws NoSuchElementException {
        Part p = need(part);
        int size = p.size;
        while (size < MOST_SECTORS && disk.whyNoRoomFor(p, size + 1) == 0) {
            size++;
        }
        return size;
    }

    public int set(int what, int value) throws IllegalArgumentException {
        if (what != WHAT_ALIGN && what != WHAT_CHUNK) {
            throw new IllegalArgumentException("what is out of range");
        }
        if (value < 1 || value > (what == WHAT_ALIGN ? MOST_ALIGN : MOST_CHUNK)) {
            throw new IllegalArgumentException("value is out of range");
        }
        history.note(disk);
        int before = what == WHAT_ALIGN ? disk.align : disk.chunk;
        if (what == WHAT_ALIGN) {
            disk.align = value;
        } else {
            disk.chunk = value;
        }
        return before;
    }

    public int split(int part, int size)
            throws IllegalArgumentException, IllegalStateException, NoSuchElementException {
        Part p = need(part);
        if (size < p.minimum || size >= p.size) {
            throw new IllegalArgumentException("size is out of range");
        }
        needFree(p);
        if (!disk.isAligned(p.start + size)) {
            throw new IllegalStateException("the rest would not begin at a multiple of ALIGN");
        }
        needNumberLeft();
        history.note(disk);
        int rest = p.size - size;
        p.size = size;
        return disk.make(p.start + size, rest, p.kind, 1);
    }

    public int join(int part) throws IllegalStateException, NoSuchElementException {
        Part p = need(part);
        Part next = disk.nextBehind(p.start);
        if (next == null || next.start != p.end()) {
            throw new IllegalStateException("there is no neighbour");
        }
        if (next.kind != p.kind) {
            throw new IllegalStateException("the neighbour is of another kind");
        }
        needFree(p);
        needFree(next);
        history.note(disk);
        int size = p.size + next.size;
        next.size = 0;
        disk.giveSize(p, size);
        return next.number;
    }

    public int shrinkAll() {
        history.note(disk);
        int lost = 0;
        for (Part p : disk.parts) {
            if (disk.isFree(p)) {
                lost += p.size - p.minimum;
                p.size = p.minimum;
            }
        }
        return lost;
    }

    public int wipe() {
        history.note(disk);
        return disk.wipeOut();
    }

    // ---- moves

    public int moveReason(int part, int to) throws NoSuchElementException {
        return disk.whyNotMove(need(part), to, disk.chunk);
    }

    public int stepsFor(int part, int to) throws NoSuchElementException {
        return disk.stepsOrNone(need(part), to, disk.chunk);
    }

    public int bestChunk(int part, int to) throws NoSuchElementException {
        Part p = need(part);
        int best = -1;
        int fewest = 0;
        for (int chunk = 1; chunk <= MOST_CHUNK; chunk++) {
            int steps = disk.stepsOrNone(p, to, chunk);
            if (steps >= 0 && (best < 0 || steps < fewest)) {
                best = chunk;
                fewest = steps;
            }
        }
        return best;
    }

    public int leftmost(int part) throws NoSuchElementException {
        return disk.leastStart(need(part));
    }

    public int rightmost(int part) throws NoSuchElementException {
        return disk.greatestStart(need(part));
    }

    public int begin(int part, int to) throws IllegalStateException, NoSuchElementException {
        Part p = need(part);
        if (disk.whyNotMove(p, to, disk.chunk) != 0) {
            throw new IllegalStateException("the partition cannot be moved there");
        }
        history.note(disk);
        disk.beginMove(p, to);
        return disk.move.stepsLeft();
    }

    public int run(int steps) throws IllegalArgumentException, IllegalStateException {
        if (steps < 1 || steps > MOST_STEPS) {
            throw new IllegalArgumentException("steps is out of range");
        }
        needMove();
        history.note(disk);
        return disk.doSteps(steps);
    }

    public int tear() throws IllegalStateException {
        needMove();
        history.note(disk);
        return disk.tearStep();
    }

    public int turnBack() throws IllegalStateException {
        needMove();
        if (disk.move.parked) {
            throw new IllegalStateException("a chunk is in the scratch area");
        }
        history.note(disk);
        disk.turnMove();
        return disk.move.stepsLeft();
    }

    public int move(int what) throws IllegalArgumentException {
        if (what < 0 || what > 8) {
            throw new IllegalArgumentException("what is out of range");
        }
        Move m = disk.move;
        if (!m.isOn()) {
            return -1;
        }
        switch (what) {
            case 0: return m.part;
            case 1: return m.from;
            case 2: return m.to;
            case 3: return m.scratch;
            case 4: return m.chunk;
            case 5: return m.chunks;
            case 6: return m.moved;
            case 7: return m.stepsLeft();
            default: return m.parked ? 1 : 0;
        }
    }

    public int blocksAt(int where) throws IllegalArgumentException {
        if (where < 0 || where > 2) {
            throw new IllegalArgumentException("where is out of range");
        }
        Move m = disk.move;
        if (!m.isOn()) {
            return -1;
        }
        int atNew = m.blocksMoved();
        int atScratch = m.parked ? m.stepLength() : 0;
        switch (where) {
            case 0: return atNew;
            case 1: return atScratch;
            default: return m.size - atNew - atScratch;
        }
    }

    public int nextStep(int what) throws IllegalArgumentException {
        if (what < 0 || what > 3) {
            throw new IllegalArgumentException("what is out of range");
        }
        Move m = disk.move;
        if (!m.isOn()) {
            return -1;
        }
        switch (what) {
            case 0: return m.stepKind();
            case 1: return m.nextChunk();
            case 2: return m.firstBlock();
            default: return m.stepLength();
        }
    }

    public int stepSector(int index, boolean to) {
        Move m = disk.move;
        if (!m.isOn() || index < 0 || index >= m.stepLength()) {
            return -1;
        }
        int block = m.firstBlock() + index;
        return to ? m.stepTarget(block) : m.stepSource(block);
    }

    public int compact() throws IllegalStateException {
        needNoMove();
        history.note(disk);
        return disk.packLeft();
    }

    public int compactSteps() {
        if (disk.move.isOn()) {
            return -1;
        }
        ahead.copyFrom(disk);
        ahead.packLeft();
        return ahead.stepsDone - disk.stepsDone;
    }

    public int cheapestMove(int size) throws IllegalArgumentException, IllegalStateException {
        if (size < 1 || size > MOST_SECTORS) {
            throw new IllegalArgumentException("size is out of range");
        }
        needNoMove();
        if (gapsNow().mostRoom() >= size) {
            return -2;
        }
        int best = -1;
        int fewest = 0;
        for (Part p : disk.parts) {
            for (int to = disk.head; disk.isFree(p) && to < disk.usableEnd(); to++) {
                int steps = disk.bringsRoom(p, to, size) ? disk.stepsOrNone(p, to, disk.chunk) : -1;
                if (steps >= 0 && (best < 0 || steps < fewest)) {
                    best = 1000 * p.number + to;
                    fewest = steps;
                }
            }
        }
        return best;
    }

    // ---- output

    public int printDisk() {
        output.empty();
        Part p = disk.nextBehind(-1);
        for (int i = 0; i < MOST_PARTS && p != null; i++) {
            if (i > 0) {
                output.putSign(SPACE);
            }
            output.putPart(p, disk.isMoved(p));
            p = disk.nextBehind(p.start);
        }
        return output.length;
    }

    public int outputByte(int index) {
        return output.byteAt(index);
    }

    // ---- what was and what is kept

    public int undo() {
        return history.takeBack(disk) ? history.kept : -1;
    }

    public int saveState() {
        saved.copyFrom(disk);
        isSaved = true;
        return disk.standing();
    }

    public int restoreState() throws IllegalStateException {
        if (!isSaved) {
            throw new IllegalStateException("no state is saved");
        }
        disk.copyFrom(saved);
        history.forget();
        return disk.standing();
    }

    private Gaps gapsNow() {
        gaps.find(disk);
        return gaps;
    }

    // ---- what a call needs

    private Part need(int part) {
        Part p = disk.find(part);
        if (p == null) {
            throw new NoSuchElementException("no such partition");
        }
        return p;
    }

    private void needSector(int sector) {
        if (sector < 0 || sector >= disk.length) {
            throw new IndexOutOfBoundsException("no such sector");
        }
    }

    private void needKindAndMinimum(int kind, int minimum, int size) {
        if (kind < 0 || kind > MOST_KIND) {
            throw new IllegalArgumentException("kind is out of range");
        }
        if (minimum < 1 || minimum > size) {
            throw new IllegalArgumentException("minimum is out of range");
        }
    }

    private void needRule(int rule) {
        if (rule < FIRST_FIT || rule > MOST_ROOM) {
            throw new IllegalArgumentException("rule is out of range");
        }
    }

    private void needNumberLeft() {
        if (disk.standing() >= MOST_PARTS) {
            throw new IllegalStateException("there are 8 partitions");
        }
    }

    private void needFree(Part p) {
        if (!disk.isFree(p)) {
            throw new IllegalStateException("the partition is locked or is moved");
        }
    }

    private void needSizeFor(Part p, int size) {
        if (disk.whyNotSize(p, size) != 0) {
            throw new IllegalStateException("the partition cannot have this size");
        }
    }

    private void needMove() {
        if (!disk.move.isOn()) {
            throw new IllegalStateException("no move is on");
        }
    }

    private void needNoMove() {
        if (disk.move.isOn()) {
            throw new IllegalStateException("a move is on");
        }
    }

    // ---- arithmetic

    /** Areas come as longs, so that no int that a caller gives can wrap around. */
    private static boolean meet(long start, long size, long otherStart, long otherSize) {
        return start < otherStart + otherSize && otherStart < start + size;
    }

    private static int roundedUp(int number, int align) {
        return align < 1 ? number : (number + align - 1) / align * align;
    }

    /** The size of the room of a gap from start to end. */
    private static int roomBetween(int start, int end, int align) {
        return Math.max(0, end - roundedUp(start, align));
    }

    private static int distanceOf(int from, int to) {
        return from < to ? to - from : from - to;
    }

    private static int stepsOfChunk(int blocks, int distance) {
        return blocks > distance ? 2 : 1;
    }

    private static int stepsOfMove(int size, int chunk, int distance) {
        if (chunk < 1) {
            return 0;
        }
        int rest = size % chunk;
        int steps = size / chunk * stepsOfChunk(chunk, distance);
        return rest == 0 ? steps : steps + stepsOfChunk(rest, distance);
    }

    /** A partition, or the place for one. */
    private static final class Part {
        final int number;
        int start;
        /** 0: no partition has this number. */
        int size;
        int minimum;
        int kind;
        boolean locked;
        int serial;
        int ended;

        Part(int number) {
            this.number = number;
        }

        void copyFrom(Part other) {
            start = other.start;
            size = other.size;
            minimum = other.minimum;
            kind = other.kind;
            locked = other.locked;
            serial = other.serial;
            ended = other.ended;
        }

        boolean stands() {
            return size > 0;
        }

        int end() {
            return start + size;
        }

        int numberOf(int block) {
            return NUMBERS_OF_A_SERIAL * (serial + 1) + block;
        }

        boolean meetsArea(long areaStart, long areaSize) {
            return size > 0 && start < areaStart + areaSize && areaStart < start + size;
        }
    }

    /** The move that is on, if there is one. */
    private static final class Move {
        /** NONE: no move is on. */
        int part = NONE;
        int size;
        int from;
        int to;
        int chunk;
        int chunks;
        /** NONE: there is no scratch area. */
        int scratch = NONE;
        int moved;
        /** A chunk is in the scratch area. */
        boolean parked;

        void copyFrom(Move other) {
            part = other.part;
            size = other.size;
            from = other.from;
            to = other.to;
            chunk = other.chunk;
            chunks = other.chunks;
            scratch = other.scratch;
            moved = other.moved;
            parked = other.parked;
        }

        boolean isOn() {
            return part != NONE;
        }

        void stop() {
            part = NONE;
        }

        int lengthOf(int chunkNumber) {
            int rest = size - chunkNumber * chunk;
            return rest < chunk ? rest : chunk;
        }

        boolean isMovedChunk(int chunkNumber) {
            return to < from ? chunkNumber < moved : chunkNumber >= chunks - moved;
        }

        int nextChunk() {
            return to < from ? moved : chunks - 1 - moved;
        }

        int firstBlock() {
            return nextChunk() * chunk;
        }

        int stepLength() {
            return lengthOf(nextChunk());
        }

        int stepKind() {
            if (parked) {
                return SCRATCH_TO_NEW;
            }
            return stepLength() > distanceOf(from, to) ? OLD_TO_SCRATCH : OLD_TO_NEW;
        }

        int stepSource(int block) {
            return parked ? scratch + block - firstBlock() : from + block;
        }

        int stepTarget(int block) {
            return stepKind() == OLD_TO_SCRATCH ? scratch + block - firstBlock() : to + block;
        }

        int placeOfBlock(int block) {
            int chunkNumber = chunk < 1 ? 0 : block / chunk;
            if (isMovedChunk(chunkNumber)) {
                return to + block;
            }
            boolean isInScratch = parked && chunkNumber == nextChunk();
            return isInScratch ? scratch + block - chunkNumber * chunk : from + block;
        }

        int blocksMoved() {
            int blocks = 0;
            for (int c = 0; c < chunks; c++) {
                if (isMovedChunk(c)) {
                    blocks += lengthOf(c);
                }
            }
            return blocks;
        }

        int stepsLeft() {
            if (!isOn()) {
                return 0;
            }
            int steps = parked ? -1 : 0;
            for (int c = 0; c < chunks; c++) {
                if (!isMovedChunk(c)) {
                    steps += stepsOfChunk(lengthOf(c), distanceOf(from, to));
                }
            }
            return steps;
        }

        int scratchSize() {
            return scratch == NONE ? 0 : Math.min(chunk, size);
        }

        boolean keepsBusy(long start, long areaSize) {
            return isOn() && (meet(to, size, start, areaSize)
                    || scratch != NONE && meet(scratch, scratchSize(), start, areaSize));
        }

        /** The end of a busy area that has the sector; the sector itself if there is none. */
        int endOfBusy(int sector) {
            if (isOn() && meet(to, size, sector, 1)) {
                return to + size;
            }
            return keepsBusy(sector, 1) ? scratch + scratchSize() : sector;
        }

        /** The least start of a busy area behind the sector; limit if there is none before it. */
        int nextBusy(int sector, int limit) {
            int next = limit;
            if (isOn() && to > sector && to < next) {
                next = to;
            }
            if (isOn() && scratch > sector && scratch < next) {
                next = scratch;
            }
            return next;
        }
    }

    /** All that can be undone and saved. */
    private static final class Disk {
        final int[] sectors = new int[MOST_SECTORS];
        final Part[] parts = new Part[MOST_PARTS];
        final Move move = new Move();
        /** A work row of packLeft, no part of the state. */
        final int[] order = new int[MOST_PARTS];
        int length;
        int head;
        int tail;
        int align;
        int chunk;
        int made;
        int stepsDone;
        int stepsTorn;
        int movesEnded;

        Disk() {
            for (int i = 0; i < MOST_PARTS; i++) {
                parts[i] = new Part(i);
            }
        }

        void clear(int newLength) {
            length = newLength;
            head = 0;
            tail = 0;
            align = FIRST_ALIGN;
            chunk = FIRST_CHUNK;
            made = 0;
            stepsDone = 0;
            stepsTorn = 0;
            movesEnded = 0;
            move.stop();
            for (Part p : parts) {
                p.size = 0;
            }
            for (int s = 0; s < sectors.length; s++) {
                sectors[s] = 0;
            }
        }

        void copyFrom(Disk other) {
            length = other.length;
            head = other.head;
            tail = other.tail;
            align = other.align;
            chunk = other.chunk;
            made = other.made;
            stepsDone = other.stepsDone;
            stepsTorn = other.stepsTorn;
            movesEnded = other.movesEnded;
            move.copyFrom(other.move);
            for (int i = 0; i < MOST_PARTS; i++) {
                parts[i].copyFrom(other.parts[i]);
            }
            System.arraycopy(other.sectors, 0, sectors, 0, MOST_SECTORS);
        }

        Part find(int part) {
            if (part < 0 || part >= parts.length || !parts[part].stands()) {
                return null;
            }
            return parts[part];
        }

        int standing() {
            int found = 0;
            for (Part p : parts) {
                if (p.stands()) {
                    found++;
                }
            }
            return found;
        }

        int takenByParts() {
            int taken = 0;
            for (Part p : parts) {
                taken += p.size;
            }
            return taken;
        }

        /** The partition with the least start behind a sector, null if there is none. */
        Part nextBehind(int sector) {
            Part next = null;
            for (Part p : parts) {
                if (p.stands() && p.start > sector && (next == null || p.start < next.start)) {
                    next = p;
                }
            }
            return next;
        }

        boolean isMoved(Part p) {
            return move.part == p.number;
        }

        /** It stands and is neither locked nor moved. */
        boolean isFree(Part p) {
            return p.stands() && !p.locked && !isMoved(p);
        }

        // -- areas

        int usableEnd() {
            return length - tail;
        }

        boolean isUsable(long start, long size) {
            return size > 0 && start >= head && start + size <= usableEnd();
        }

        boolean isAligned(int sector) {
            return align > 0 && sector % align == 0;
        }

        int meeting(long start, long size) {
            int mask = 0;
            for (Part p : parts) {
                if (p.meetsArea(start, size)) {
                    mask |= 1 << p.number;
                }
            }
            return mask;
        }

        int meetingOthers(Part p, int start, int size) {
            return meeting(start, size) & ~(1 << p.number);
        }

        /** The end of a partition or busy area that has the sector; the sector itself if there is none. */
        int endOfTaken(int sector) {
            for (Part p : parts) {
                if (p.meetsArea(sector, 1)) {
                    return p.end();
                }
            }
            return move.endOfBusy(sector);
        }

        /** The least start of a partition or busy area behind the sector, else the end of the usable sectors. */
        int nextTaken(int sector) {
            int next = move.nextBusy(sector, usableEnd());
            Part p = nextBehind(sector);
            return p == null ? next : Math.min(next, p.start);
        }

        // -- the three lists of reasons

        int whyNotTake(int start, int size) {
            if (!isUsable(start, size)) {
                return 1;
            }
            if (!isAligned(start)) {
                return 2;
            }
            if (meeting(start, size) != 0) {
                return 3;
            }
            return move.keepsBusy(start, size) ? 4 : 0;
        }

        int whyNotSize(Part p, int size) {
            if (p.locked) {
                return 1;
            }
            return isMoved(p) ? 2 : whyNoRoomFor(p, size);
        }

        /** The reasons from 3 on. */
        int whyNoRoomFor(Part p, int size) {
            if (size < p.minimum) {
                return 3;
            }
            if (!isUsable(p.start, size)) {
                return 4;
            }
            if (meetingOthers(p, p.start, size) != 0) {
                return 5;
            }
            return size > p.size && move.keepsBusy(p.end(), size - p.size) ? 6 : 0;
        }

        int whyNotMove(Part p, int to, int chunkSize) {
            if (p.locked) {
                return 1;
            }
            if (move.isOn()) {
                return 2;
            }
            if (to == p.start) {
                return 3;
            }
            if (!isUsable(to, p.size)) {
                return 4;
            }
            if (!isAligned(to)) {
                return 5;
            }
            if (meetingOthers(p, to, p.size) != 0) {
                return 6;
            }
            return needsScratch(p, to, chunkSize) && scratchFor(p, to, chunkSize) == NONE ? 7 : 0;
        }

        boolean needsScratch(Part p, int to, int chunkSize) {
            return Math.min(chunkSize, p.size) > distanceOf(p.start, to);
        }

        /** Where the scratch area of a move would begin, NONE if there is no place for one. */
        int scratchFor(Part p, int to, int chunkSize) {
            int size = Math.min(chunkSize, p.size);
            int start = usableEnd() - size;
            // What stands in the way is passed with all its sectors, so that no try meets it again.
            for (int tries = 0; tries < MOST_SECTORS && start >= head; tries++) {
                int inTheWay = startInTheWay(p, to, start, size);
                if (inTheWay == NONE) {
                    return start;
                }
                start = inTheWay - size;
            }
            return NONE;
        }

        /** The start of some area that has a sector in common with a scratch area, NONE if there is none. */
        int startInTheWay(Part moving, int to, int start, int size) {
            for (Part p : parts) {
                if (p.meetsArea(start, size)) {
                    return p.start;
                }
            }
            return meet(to, moving.size, start, size) ? to : NONE;
        }

        // -- blocks

        int numberAt(int sector) {
            return sector < 0 || sector >= sectors.length ? 0 : sectors[sector];
        }

        void write(int sector, int number) {
            if (sector >= 0 && sector < sectors.length) {
                sectors[sector] = number;
            }
        }

        void writeBlocks(Part p, int firstBlock) {
            for (int b = firstBlock; b < p.size; b++) {
                write(p.start + b, p.numberOf(b));
            }
        }

        int placeOf(Part p, int block) {
            return isMoved(p) ? move.placeOfBlock(block) : p.start + block;
        }

        /** The partition with a block whose place is the sector, NONE if there is none. */
        int holderOf(int sector) {
            if (move.isOn()) {
                Part p = find(move.part);
                if (p != null && hasPlace(p, sector)) {
                    return p.number;
                }
            }
            for (Part p : parts) {
                if (!isMoved(p) && p.meetsArea(sector, 1)) {
                    return p.number;
                }
            }
            return NONE;
        }

        /** Whether a block of the partition that is moved has its place there: at one of three areas. */
        boolean hasPlace(Part p, int sector) {
            return isPlaceOf(p, sector - move.to, sector) || isPlaceOf(p, sector - move.from, sector)
                    || move.parked && isPlaceOf(p, sector - move.scratch + move.firstBlock(), sector);
        }

        boolean isPlaceOf(Part p, int block, int sector) {
            return block >= 0 && block < p.size && move.placeOfBlock(block) == sector;
        }

        boolean keepsWhole(Part p) {
            for (int b = 0; b < p.size; b++) {
                if (numberAt(placeOf(p, b)) != p.numberOf(b)) {
                    return false;
                }
            }
            return true;
        }

        int leftOverOf(Part p) {
            int found = 0;
            for (int s = 0; s < length; s++) {
                int block = numberAt(s) - p.numberOf(0);
                if (block >= 0 && block < p.size && placeOf(p, block) != s) {
                    found++;
                }
            }
            return found;
        }

        int wipeOut() {
            int wiped = 0;
            for (int s = 0; s < length; s++) {
                if (numberAt(s) != 0 && holderOf(s) == NONE) {
                    write(s, 0);
                    wiped++;
                }
            }
            return wiped;
        }

        // -- partitions

        /** Returns the number of the new partition, NONE if all are given. */
        int make(int start, int size, int kind, int minimum) {
            for (Part p : parts) {
                if (!p.stands()) {
                    p.start = start;
                    p.size = size;
                    p.minimum = minimum;
                    p.kind = kind;
                    p.locked = false;
                    p.serial = made;
                    p.ended = 0;
                    made++;
                    writeBlocks(p, 0);
                    return p.number;
                }
            }
            return NONE;
        }

        void giveSize(Part p, int size) {
            int before = p.size;
            p.size = size;
            writeBlocks(p, before);
        }

        // -- moves

        int stepsOrNone(Part p, int to, int chunkSize) {
            if (whyNotMove(p, to, chunkSize) != 0) {
                return -1;
            }
            return stepsOfMove(p.size, chunkSize, distanceOf(p.start, to));
        }

        void beginMove(Part p, int to) {
            move.scratch = needsScratch(p, to, chunk) ? scratchFor(p, to, chunk) : NONE;
            move.part = p.number;
            move.size = p.size;
            move.from = p.start;
            move.to = to;
            move.chunk = chunk;
            move.chunks = chunk < 1 ? 0 : (p.size + chunk - 1) / chunk;
            move.moved = 0;
            move.parked = false;
        }

        int doSteps(int most) {
            int done = 0;
            while (done < most && move.isOn()) {
                doStep();
                done++;
            }
            stepsDone += done;
            return done;
        }

        void doStep() {
            int first = move.firstBlock();
            copySectors(move.stepSource(first), move.stepTarget(first), move.stepLength());
            if (move.stepKind() == OLD_TO_SCRATCH) {
                move.parked = true;
                return;
            }
            move.parked = false;
            move.moved++;
            if (move.moved >= move.chunks) {
                endMove();
            }
        }

        int tearStep() {
            int first = move.firstBlock();
            int blocks = move.stepLength() / 2;
            copySectors(move.stepSource(first), move.stepTarget(first), blocks);
            stepsTorn++;
            return blocks;
        }

        void copySectors(int source, int target, int count) {
            for (int i = 0; i < count; i++) {
                write(target + i, numberAt(source + i));
            }
        }

        void endMove() {
            Part p = find(move.part);
            if (p != null) {
                p.start = move.to;
                p.ended++;
            }
            movesEnded++;
            move.stop();
        }

        void turnMove() {
            Part p = find(move.part);
            if (move.moved == 0 || p == null) {
                move.stop();
                return;
            }
            int before = move.from;
            move.from = move.to;
            move.to = before;
            // The order of the chunks turns, too: those that had not been moved come first in it.
            move.moved = move.chunks - move.moved;
            p.start = move.from;
        }

        // -- what moves could bring

        int leastStart(Part p) {
            for (int to = head; to < p.start; to++) {
                if (whyNotMove(p, to, chunk) == 0) {
                    return to;
                }
            }
            return NONE;
        }

        int greatestStart(Part p) {
            for (int to = usableEnd() - p.size; to > p.start; to--) {
                if (whyNotMove(p, to, chunk) == 0) {
                    return to;
                }
            }
            return NONE;
        }

        /** Returns the number of partitions that are moved. */
        int packLeft() {
            int standing = 0;
            // A move can jump over a neighbour: the order that stands at first is kept apart.
            for (Part p = nextBehind(-1); p != null && standing < order.length; p = nextBehind(p.start)) {
                order[standing] = p.number;
                standing++;
            }
            int moved = 0;
            for (int i = 0; i < standing && i < order.length; i++) {
                Part p = find(order[i]);
                int to = p == null ? NONE : leastStart(p);
                if (to != NONE) {
                    beginMove(p, to);
                    doSteps(MOST_STEPS);
                    moved++;
                }
            }
            return moved;
        }

        /**
         * Whether some gap would have a room of the size if the partition stood at another start. It is asked
         * where no room is enough yet; so only the hole that the partition leaves can bring one.
         */
        boolean bringsRoom(Part p, int to, int size) {
            int holeStart = head;
            for (Part other : parts) {
                if (other.stands() && other.start < p.start) {
                    holeStart = Math.max(holeStart, other.end());
                }
            }
            Part next = nextBehind(p.start);
            int holeEnd = next == null ? usableEnd() : next.start;
            if (!meet(holeStart, holeEnd - holeStart, to, p.size)) {
                return roomBetween(holeStart, holeEnd, align) >= size;
            }
            return roomBetween(holeStart, to, align) >= size || roomBetween(to + p.size, holeEnd, align) >= size;
        }
    }

    /** The gaps of a disk, as they were when they were looked for. */
    private static final class Gaps {
        /** Between and around the partitions, TO and the scratch area. */
        private static final int MOST = MOST_PARTS + 3;
        final int[] starts = new int[MOST];
        final int[] sizes = new int[MOST];
        int found;
        int align;

        void find(Disk disk) {
            found = 0;
            align = disk.align;
            int at = disk.head;
            int end = disk.usableEnd();
            for (int round = 0; round < MOST_SECTORS && at < end; round++) {
                int behind = disk.endOfTaken(at);
                if (behind == at) {
                    behind = disk.nextTaken(at);
                    note(at, behind - at);
                }
                at = behind;
            }
        }

        private void note(int start, int size) {
            if (found < starts.length && found < sizes.length) {
                starts[found] = start;
                sizes[found] = size;
                found++;
            }
        }

        int start(int gap) {
            return gap < 0 || gap >= starts.length ? 0 : starts[gap];
        }

        int size(int gap) {
            return gap < 0 || gap >= sizes.length ? 0 : sizes[gap];
        }

        int roomStart(int gap) {
            return roundedUp(start(gap), align);
        }

        int room(int gap) {
            return roomBetween(start(gap), start(gap) + size(gap), align);
        }

        int sectors() {
            int sum = 0;
            for (int g = 0; g < found; g++) {
                sum += size(g);
            }
            return sum;
        }

        int sectorsOfRooms() {
            int sum = 0;
            for (int g = 0; g < found; g++) {
                sum += room(g);
            }
            return sum;
        }

        int largest() {
            int largest = 0;
            for (int g = 0; g < found; g++) {
                largest = Math.max(largest, size(g));
            }
            return largest;
        }

        int mostRoom() {
            int most = 0;
            for (int g = 0; g < found; g++) {
                most = Math.max(most, room(g));
            }
            return most;
        }

        int holding(int sector) {
            for (int g = 0; g < found; g++) {
                if (meet(start(g), size(g), sector, 1)) {
                    return g;
                }
            }
            return NONE;
        }

        /** Where a partition of the size would begin by the rule, NONE if there is no start. */
        int startFor(int size, int rule) {
            int best = NONE;
            for (int g = 0; size > 0 && g < found; g++) {
                if (room(g) >= size && (best == NONE || isBetter(g, best, rule))) {
                    best = g;
                }
            }
            return best == NONE ? NONE : roomStart(best);
        }

        private boolean isBetter(int gap, int best, int rule) {
            return rule == LEAST_ROOM && room(gap) < room(best) || rule == MOST_ROOM && room(gap) > room(best);
        }
    }

    /** The latest changes: how the disk was before each of them. */
    private static final class History {
        final Disk[] past = new Disk[MOST_UNDONE];
        int newest;
        int kept;

        History() {
            for (int i = 0; i < MOST_UNDONE; i++) {
                past[i] = new Disk();
            }
        }

        void note(Disk disk) {
            newest = newest + 1 < past.length ? newest + 1 : 0;
            past[newest].copyFrom(disk);
            kept = Math.min(kept + 1, MOST_UNDONE);
        }

        boolean takeBack(Disk disk) {
            if (kept < 1 || newest < 0 || newest >= past.length) {
                return false;
            }
            disk.copyFrom(past[newest]);
            newest = newest > 0 ? newest - 1 : past.length - 1;
            kept--;
            return true;
        }

        void forget() {
            kept = 0;
        }
    }

    /** What the latest printDisk wrote. */
    private static final class Output {
        /** Eight times "0[000,000]*>" and the spaces between them need 103. */
        private static final int MOST = 128;
        final int[] signs = new int[MOST];
        int length;

        void empty() {
            length = 0;
        }

        void putSign(int sign) {
            if (length >= 0 && length < signs.length) {
                signs[length] = sign;
                length++;
            }
        }

        void putNumber(int number) {
            if (number >= 100) {
                putSign('0' + number / 100 % 10);
            }
            if (number >= 10) {
                putSign('0' + number / 10 % 10);
            }
            putSign('0' + number % 10);
        }

        void putPart(Part p, boolean isMoved) {
            putNumber(p.number);
            putSign('[');
            putNumber(p.start);
            putSign(',');
            putNumber(p.size);
            putSign(']');
            if (p.locked) {
                putSign('*');
            }
            if (isMoved) {
                putSign('>');
            }
        }

        int byteAt(int index) {
            return index < 0 || index >= length || index >= signs.length ? -1 : signs[index];
        }
    }

    /** The input buffer, and the parser of the setup text that it holds. */
    private static final class Setup {
        private static final int END = 0;
        private static final int WORD = 1;
        private static final int NUMBER = 2;
        private static final int SEMICOLON = 3;
        private static final int WRONG = 4;

        final int[] bytes = new int[MOST_BYTES];
        int length;
        int error = NO_ERROR;
        int errorAt = -1;
        private int position;
        private int token;
        private int tokenStart;
        private int value;
        private boolean headTold;
        private boolean tailTold;
        private boolean alignTold;
        private boolean chunkTold;

        boolean hasRoomFor(int more) {
            return length + more <= bytes.length;
        }

        void putBytes(int four) {
            for (int shift = 24; shift >= 0; shift -= 8) {
                if (length >= 0 && length < bytes.length) {
                    bytes[length] = four >>> shift & 255;
                    length++;
                }
            }
        }

        /** Whether the text is right; if not, the disk may hold some of it. */
        boolean parseInto(Disk disk) {
            error = NO_ERROR;
            errorAt = -1;
            position = 0;
            headTold = false;
            tailTold = false;
            alignTold = false;
            chunkTold = false;
            next();
            if (!isWord("disk")) {
                return fail(SYNTAX);
            }
            if (!number(LEAST_SECTORS, MOST_SECTORS)) {
                return false;
            }
            disk.clear(value);
            boolean isRight = semicolon();
            for (int statements = 0; isRight && statements < MOST_BYTES; statements++) {
                next();
                if (token == END) {
                    return true;
                }
                isRight = statement(disk);
            }
            return isRight;
        }

        private boolean statement(Disk disk) {
            if (isWord("part")) {
                return partition(disk) && semicolon();
            }
            if (isWord("lock")) {
                return locking(disk) && semicolon();
            }
            if (isWord("chunk")) {
                return chunking(disk) && semicolon();
            }
            return layout(disk) && semicolon();
        }

        /** What must stand ahead of all partitions. */
        private boolean layout(Disk disk) {
            boolean isHead = isWord("head");
            boolean isTail = isWord("tail");
            if (!isHead && !isTail && !isWord("align") || disk.standing() > 0) {
                return fail(SYNTAX);
            }
            if (isHead ? headTold : isTail ? tailTold : alignTold) {
                return fail(TWICE);
            }
            if (isHead || isTail ? !number(0, MOST_RESERVED) : !number(1, MOST_ALIGN)) {
                return false;
            }
            if (isHead) {
                headTold = true;
                disk.head = value;
            } else if (isTail) {
                tailTold = true;
                disk.tail = value;
            } else {
                alignTold = true;
                disk.align = value;
            }
            return true;
        }

        private boolean chunking(Disk disk) {
            if (chunkTold) {
                return fail(TWICE);
            }
            chunkTold = true;
            if (!number(1, MOST_CHUNK)) {
                return false;
            }
            disk.chunk = value;
            return true;
        }

        private boolean partition(Disk disk) {
            if (disk.standing() >= MOST_PARTS) {
                return fail(TOO_MANY);
            }
            if (!number(disk.head, disk.usableEnd() - 1)) {
                return false;
            }
            int start = value;
            if (!disk.isAligned(start)) {
                return fail(OUT_OF_RANGE);
            }
            if (!number(1, disk.usableEnd() - start)) {
                return false;
            }
            int size = value;
            if (disk.meeting(start, size) != 0) {
                return fail(TAKEN);
            }
            if (!number(0, MOST_KIND)) {
                return false;
            }
            int kind = value;
            if (!number(1, size)) {
                return false;
            }
            disk.make(start, size, kind, value);
            return true;
        }

        private boolean locking(Disk disk) {
            if (!number(0, disk.standing() - 1)) {
                return false;
            }
            Part p = disk.find(value);
            if (p == null) {
                return fail(OUT_OF_RANGE);
            }
            if (p.locked) {
                return fail(TWICE);
            }
            p.locked = true;
            return true;
        }

        private boolean semicolon() {
            next();
            return token == SEMICOLON || fail(SYNTAX);
        }

        /** Reads a number into value. */
        private boolean number(int least, int most) {
            next();
            if (token != NUMBER) {
                return fail(SYNTAX);
            }
            return value >= least && value <= most || fail(OUT_OF_RANGE);
        }

        /** Reports an error at the token that was read last. Always false. */
        private boolean fail(int code) {
            error = code;
            errorAt = tokenStart;
            return false;
        }

        // -- tokens

        private int byteAt(int index) {
            return index < 0 || index >= length || index >= bytes.length ? -1 : bytes[index];
        }

        private static boolean isLetter(int sign) {
            return sign >= 'a' && sign <= 'z';
        }

        private static boolean isDigit(int sign) {
            return sign >= '0' && sign <= '9';
        }

        private void next() {
            while (position < length && (byteAt(position) == SPACE || byteAt(position) == LINE_FEED)) {
                position++;
            }
            tokenStart = position;
            if (position >= length) {
                token = END;
                return;
            }
            int sign = byteAt(position);
            position++;
            if (isLetter(sign)) {
                token = WORD;
                while (position < length && isLetter(byteAt(position))) {
                    position++;
                }
                return;
            }
            if (!isDigit(sign)) {
                token = sign == ';' ? SEMICOLON : WRONG;
                return;
            }
            value = sign - '0';
            while (position < length && isDigit(byteAt(position))) {
                if (position - tokenStart < MOST_DIGITS) {
                    value = value * 10 + byteAt(position) - '0';
                }
                position++;
            }
            token = position - tokenStart > MOST_DIGITS ? WRONG : NUMBER;
        }

        private boolean isWord(String word) {
            if (token != WORD || position - tokenStart != word.length()) {
                return false;
            }
            for (int i = 0; i < word.length(); i++) {
                if (byteAt(tokenStart + i) != word.charAt(i)) {
                    return false;
                }
            }
            return true;
        }
    }
}

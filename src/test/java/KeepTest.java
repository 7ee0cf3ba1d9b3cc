import java.util.ArrayList;
import java.util.List;
import java.util.NoSuchElementException;

/** Promises 58 to 62: the output, undo and the saved state; and what changes a bench at all. */
public final class KeepTest {
    private interface Act {
        void on(PartitionBench bench);
    }

    private static final Check check = new Check();
    private static final String TEXT = "disk 100;head 2;tail 2;align 2;"
        + "part 10 10 1 4;part 20 6 1 2;part 30 8 2 8;part 50 10 3 1;lock 3;";

    public static void main(String[] args) {
        promise58PrintDisk();
        promise59OutputByte();
        promise60Undo();
        promise60Latest10();
        promise60IntoAMove();
        promise60Counts();
        promise60EachChange();
        promise61SaveState();
        promise62RestoreState();
        questionsChangeNothing();
        whatThrowsChangesNothing();
        manyCalls();
        check.end();
    }

    private static void promise58PrintDisk() {
        check.at("promise 58");
        PartitionBench b = Texts.bench(TEXT);
        check.due("print", Texts.print(b), "0[10,10] 1[20,6] 2[30,8] 3[50,10]*");
        check.due("printDisk()", b.printDisk(), 34);
        b.remove(0);
        b.begin(1, 2);
        b.run(1);
        check.due("a move is on", Texts.print(b), "1[20,6]> 2[30,8] 3[50,10]*");
        b.lock(1, true);
        check.due("locked and moved", Texts.print(b), "1[20,6]*> 2[30,8] 3[50,10]*");
        b.run(9);
        check.due("the order of the starts", Texts.print(b), "1[2,6]* 2[30,8] 3[50,10]*");
        check.due("the output is replaced", b.outputByte(25), -1);
        PartitionBench none = new PartitionBench();
        check.due("no partitions", none.printDisk(), 0);
        PartitionBench long3 = Texts.bench("disk 600;part 400 100 0 1;part 100 101 0 1;part 599 1 0 1;part 0 99 0 1;");
        check.due("numbers of all lengths", Texts.print(long3), "3[0,99] 1[100,101] 0[400,100] 2[599,1]");
        StringBuilder eight = new StringBuilder("disk 600;");
        StringBuilder due = new StringBuilder();
        for (int i = 0; i < 8; i++) {
            eight.append("part ").append(100 + 10 * i).append(" 10 0 1;lock ").append(i).append(";");
            due.append(i > 0 ? " " : "").append(i).append('[').append(100 + 10 * i).append(",10]*");
        }
        check.due("eight", Texts.print(Texts.bench(eight.toString())), due.toString());
    }

    private static void promise59OutputByte() {
        check.at("promise 59");
        PartitionBench b = Texts.bench("disk 64;part 5 7 0 1;");
        check.due("before printDisk", b.outputByte(0), -1);
        b.printDisk();
        int[] due = {'0', '[', '5', ',', '7', ']', -1};
        for (int i = 0; i < due.length; i++) {
            check.due("outputByte(" + i + ")", b.outputByte(i), due[i]);
        }
        for (int index : new int[] {-1, 127, 128, 129, Integer.MAX_VALUE, Integer.MIN_VALUE}) {
            check.due("outputByte(" + index + ")", b.outputByte(index), -1);
        }
        b.saveState();
        b.add(20, 4, 0, 1);
        check.due("a change leaves it", b.outputByte(6), -1);
        b.printDisk();
        b.undo();
        check.due("undo leaves it", b.outputByte(6), (int) ' ');
        b.restoreState();
        check.due("restoreState leaves it", b.outputByte(7), (int) '1');
        b.remove(0);
        check.due("an empty output", b.printDisk(), 0);
        check.due("outputByte(0)", b.outputByte(0), -1);
    }

    private static void promise60Undo() {
        check.at("promise 60");
        PartitionBench b = Texts.bench(TEXT);
        check.due("nothing to undo", b.undo(), -1);
        for (int i = 1; i <= 12; i++) {
            b.set(4, i);
            check.due("changes that can be undone", b.count(11), Math.min(i, 10));
        }
        for (int i = 9; i >= 5; i--) {
            check.due("undo()", b.undo(), i);
            check.due("CHUNK", b.count(4), i + 2);
        }
        b.set(4, 16);
        check.due("a new change", b.count(11), 6);
        check.due("undo()", b.undo(), 5);
        check.due("CHUNK", b.count(4), 7);
        for (int i = 4; i >= 0; i--) {
            check.due("undo()", b.undo(), i);
            check.due("CHUNK", b.count(4), i + 2);
        }
        check.due("the latest 10 only", b.undo(), -1);
        check.due("CHUNK", b.count(4), 2);
        b.set(4, 9);
        Texts.load(b, "disk 63;");
        check.due("an error leaves it", b.count(11), 1);
        Texts.load(b, "disk 64;");
        check.due("a load leaves nothing to undo", b.undo(), -1);
        b.saveState();
        b.set(4, 3);
        b.undo();
        check.due("undo leaves the saved state", b.restoreState(), 0);
        b.set(4, 3);
        Texts.append(b, "disk 70;");
        b.undo();
        check.due("undo leaves the input buffer", b.loadDisk() + b.count(0), 70);
        b.add(0, 4, 0, 1);
        b.undo();
        b.add(0, 4, 0, 1);
        check.due("one that was undone was not made", b.part(0, 5) * 10000 + b.sector(3), 1003);
    }

    /** However many changes there were, the latest 10 can be undone, and none before them. */
    private static void promise60Latest10() {
        check.at("promise 60, the latest 10");
        for (int changes = 0; changes <= 32; changes++) {
            PartitionBench b = new PartitionBench();
            for (int i = 1; i <= changes; i++) {
                b.set(3, i);
            }
            int undone = 0;
            while (undone < 40 && b.undo() >= 0) {
                undone++;
            }
            check.due(changes + " changes, undone", undone, Math.min(changes, 10));
            check.due(changes + " changes, ALIGN", b.count(3), Math.max(1, changes - 10));
            check.due(changes + " changes, left", b.count(11), 0);
            check.due(changes + " changes, once more", b.undo(), -1);
            check.due(changes + " changes, as before", b.count(3), Math.max(1, changes - 10));
        }
    }

    private static void promise60IntoAMove() {
        check.at("promise 60, back into a move");
        PartitionBench b = Texts.bench(TEXT);
        b.begin(0, 8);
        b.run(1);
        b.saveState();
        b.restoreState();
        String before = Texts.state(b) + b.blocksAt(2);
        for (boolean bySave : new boolean[] {false, true}) {
            b.run(99);
            b.set(4, 3);
            b.begin(1, 2);
            b.run(2);
            if (bySave) {
                b.restoreState();
            }
            for (int i = 0; i < 4 && !bySave; i++) {
                b.undo();
            }
            check.due("the earlier move", Texts.state(b) + b.blocksAt(2), before);
        }
        check.due("its steps", b.run(99), 4);
        check.due("verify()", b.verify(), 15);
        check.due("print", Texts.print(b), "0[8,10] 1[20,6] 2[30,8] 3[50,10]*");
    }

    /** The numbers that are counted are undone and restored, each by itself. */
    private static void promise60Counts() {
        check.at("promise 60, counts");
        PartitionBench b = Texts.bench(TEXT);
        b.begin(0, 70);
        b.tear();
        b.tear();
        b.run(3);
        b.begin(1, 60);
        b.run(1);
        b.set(4, 2);
        b.set(3, 1);
        check.due("done, torn, ended", b.count(8) + " " + b.count(9) + " " + b.count(10), "4 2 1");
        b.saveState();
        b.run(1);
        b.begin(2, 28);
        b.tear();
        b.run(5);
        check.due("more of each", b.count(8) + " " + b.count(9) + " " + b.count(10), "9 3 3");
        String later = Texts.state(b);
        b.undo();
        check.due("run undone", b.count(8) + " " + b.count(9) + " " + b.count(10), "5 3 2");
        b.undo();
        check.due("tear undone", b.count(8) + " " + b.count(9) + " " + b.count(10), "5 2 2");
        b.undo();
        b.undo();
        check.due("the end of a move undone", b.count(8) + " " + b.count(9) + " " + b.count(10), "4 2 1");
        check.due("its own, too", b.part(1, 6) + " " + b.part(0, 6), "0 1");
        check.due("the changes that are left", b.count(11), 6);
        b.run(1);
        b.begin(2, 28);
        b.tear();
        b.run(5);
        check.due("the same again", Texts.state(b), later);
        b.restoreState();
        check.due("restored", b.count(8) + " " + b.count(9) + " " + b.count(10) + " " + b.count(11), "4 2 1 0");
    }

    /** What the document calls a change; each one on a bench with a move on, at its second step. */
    private static List<Act> changes() {
        List<Act> acts = new ArrayList<>();
        acts.add(b -> b.add(70, 4, 0, 1));
        acts.add(b -> b.addBy(3, 0, 1, 2));
        acts.add(b -> b.remove(2));
        acts.add(b -> b.lock(2, true));
        acts.add(b -> b.lock(2, false));
        acts.add(b -> b.resize(2, 10));
        acts.add(b -> b.resize(2, 8));
        acts.add(b -> b.setMinimum(0, 1));
        acts.add(b -> b.setMinimum(0, 4));
        acts.add(b -> b.set(3, 5));
        acts.add(b -> b.set(3, 2));
        acts.add(b -> b.set(4, 9));
        acts.add(b -> b.set(4, 4));
        acts.add(b -> b.run(1));
        acts.add(b -> b.run(99));
        acts.add(b -> b.tear());
        acts.add(b -> b.split(1, 2));
        acts.add(b -> b.shrinkAll());
        acts.add(b -> b.wipe());
        acts.add(b -> b.roundUp(2));
        return acts;
    }

    /** The same on a bench without a move, and with one whose next chunk can be turned back. */
    private static List<Act> otherChanges() {
        List<Act> acts = new ArrayList<>();
        acts.add(b -> b.begin(0, 70));
        acts.add(b -> b.compact());
        acts.add(b -> b.join(0));
        acts.add(b -> b.wipe());
        acts.add(b -> b.shrinkAll());
        return acts;
    }

    private static PartitionBench moving() {
        PartitionBench b = Texts.bench(TEXT);
        b.begin(0, 8);
        b.run(1);
        b.saveState();
        b.restoreState();
        return b;
    }

    private static void promise60EachChange() {
        check.at("promise 60, each change");
        int n = 0;
        for (Act act : changes()) {
            PartitionBench b = moving();
            undoes("change " + n++, b, act);
        }
        for (Act act : otherChanges()) {
            undoes("other change " + n++, Texts.bench(TEXT), act);
        }
        PartitionBench b = moving();
        b.run(1);
        b.saveState();
        b.restoreState();
        undoes("turnBack", b, x -> x.turnBack());
        PartitionBench begun = Texts.bench(TEXT);
        begun.begin(0, 8);
        begun.saveState();
        begun.restoreState();
        undoes("turnBack at the beginning", begun, x -> x.turnBack());
        PartitionBench packed = Texts.bench("disk 64;part 0 4 0 1;");
        undoes("compact without a move", packed, x -> x.compact());
    }

    private static void undoes(String name, PartitionBench b, Act act) {
        // One change ahead of it, by which the state is neither the one that was loaded nor the one that was saved.
        b.set(4, b.count(4) + 1);
        String before = Texts.state(b);
        act.on(b);
        check.due(name + " can be undone", b.count(11), 2);
        check.due(name + " undo()", b.undo(), 1);
        check.due(name + " the state behind", Texts.state(b), before);
    }

    private static void promise61SaveState() {
        check.at("promise 61");
        PartitionBench b = moving();
        String before = Texts.state(b);
        check.due("saveState()", b.saveState(), 4);
        check.due("it changes nothing", Texts.state(b), before);
        b.run(99);
        b.wipe();
        b.remove(1);
        b.set(3, 7);
        b.restoreState();
        check.due("all is as it was", Texts.state(b), before);
        b.remove(1);
        check.due("in place of the earlier one", b.saveState(), 3);
        check.due("it is no change", b.count(11), 1);
        b.add(70, 4, 0, 1);
        check.due("restoreState()", b.restoreState(), 3);
        check.throwsDue("the later one", NoSuchElementException.class, () -> b.part(1, 0));
        b.add(70, 4, 0, 1);
        check.due("the serial is that of the saved state", b.part(1, 5), 4);
        check.due("of no partition", new PartitionBench().saveState(), 0);
        PartitionBench eight = Texts.bench("disk 64;part 0 1 0 1;part 1 1 0 1;part 2 1 0 1;part 3 1 0 1;part 4 1 0 1;"
            + "part 5 1 0 1;part 6 1 0 1;part 7 1 0 1;");
        check.due("of eight", eight.saveState(), 8);
        eight.remove(0);
        check.due("of eight, restored", eight.restoreState(), 8);
    }

    private static void promise62RestoreState() {
        check.at("promise 62");
        PartitionBench b = Texts.bench(TEXT);
        check.throwsDue("no state is saved", IllegalStateException.class, () -> b.restoreState());
        b.set(4, 3);
        check.throwsDue("none is saved still", IllegalStateException.class, () -> b.restoreState());
        check.due("what throws leaves what can be undone", b.undo(), 0);
        b.saveState();
        String before = Texts.state(b);
        b.remove(0);
        b.add(10, 4, 0, 1);
        check.due("restoreState()", b.restoreState(), 4);
        check.due("the state", Texts.state(b), before);
        check.due("nothing can be undone", b.undo(), -1);
        b.shrinkAll();
        b.wipe();
        check.due("it stays saved", b.restoreState(), 4);
        check.due("the state again", Texts.state(b), before);
        Texts.append(b, "disk 70;");
        b.restoreState();
        check.due("the input buffer is not restored", b.truncateInput(8), true);
        b.truncateInput(0);
        b.loadDisk();
        check.due("an error leaves the saved state", b.restoreState(), 4);
        check.due("the reported error is not restored", b.errorCode(), PartitionBench.SYNTAX);
        Texts.load(b, "disk 64;");
        check.throwsDue("a load leaves none", IllegalStateException.class, () -> b.restoreState());
    }

    private static void askAll(PartitionBench b) {
        for (int n = -1; n < 13; n++) {
            int i = n;
            List<Check.Call> calls = new ArrayList<>(List.of(() -> b.count(i), () -> b.sector(i * 9), () -> b.owner(i * 9),
                () -> b.isWhole(i), () -> b.byStart(i), () -> b.largestGap(), () -> b.growsTo(i), () -> b.move(i)));
            calls.addAll(List.of(() -> b.leftmost(i), () -> b.compactSteps(), () -> b.cheapestMove(i * 7), () -> b.waste(),
                () -> b.scatter(), () -> b.used(), () -> b.slack(), () -> b.ofKind(i), () -> b.blocksAt(i)));
            calls.addAll(List.of(() -> b.copies(i), () -> b.rightmost(i), () -> b.behind(i), () -> b.gapAt(i * 9),
                () -> b.verify(), () -> b.nextStep(i), () -> b.stepSector(i, true), () -> b.outputByte(i)));
            calls.addAll(List.of(() -> b.errorCode(), () -> b.errorOffset(), () -> b.printDisk(), () -> b.saveState()));
            for (int m = -1; m < 70; m++) {
                int k = m;
                calls.addAll(List.of(() -> b.part(i, k), () -> b.place(i, k), () -> b.gap(i, k), () -> b.fit(k, i),
                    () -> b.reason(k, i), () -> b.overlapped(k, i), () -> b.resizeReason(i, k)));
                calls.addAll(List.of(() -> b.moveReason(i, k), () -> b.stepsFor(i, k), () -> b.bestChunk(i, k)));
            }
            for (Check.Call call : calls) {
                Check.outcome(call);
            }
        }
    }

    private static void questionsChangeNothing() {
        check.at("questions");
        PartitionBench[] benches = {Texts.bench(TEXT), moving(), new PartitionBench()};
        for (PartitionBench b : benches) {
            b.lock(b.count(5) - 1 < 0 ? b.add(3, 3, 0, 1) : 0, true);
            String before = Texts.state(b);
            askAll(b);
            check.due("what is asked changes nothing", Texts.state(b), before);
        }
    }

    private static void whatThrowsChangesNothing() {
        check.at("exceptions");
        PartitionBench[] benches = {Texts.bench(TEXT), moving()};
        for (PartitionBench b : benches) {
            String before = Texts.state(b);
            List<Check.Call> calls = new ArrayList<>(List.of(() -> b.add(3, 2, 0, 1), () -> b.add(70, 2, 10, 1),
                () -> b.addBy(99, 0, 1, 0), () -> b.addBy(1, 0, 1, 3), () -> b.remove(3), () -> b.remove(7)));
            calls.addAll(List.of(() -> b.lock(7, true), () -> b.resize(0, 99), () -> b.resize(7, 1), () -> b.resize(3, 10)));
            calls.addAll(List.of(() -> b.setMinimum(0, 0), () -> b.setMinimum(7, 1), () -> b.set(3, 0), () -> b.set(9, 1),
                () -> b.begin(3, 70), () -> b.begin(7, 70), () -> b.run(0), () -> b.split(0, 0), () -> b.split(3, 4)));
            calls.addAll(List.of(() -> b.split(7, 4), () -> b.join(2), () -> b.join(7), () -> b.roundUp(3),
                () -> b.roundUp(7)));
            if (b.move(0) < 0) {
                calls.addAll(List.of(() -> b.run(5), () -> b.tear(), () -> b.turnBack(), () -> b.restoreState()));
            } else {
                calls.addAll(List.of(() -> b.compact(), () -> b.turnBack(), () -> b.begin(1, 70), () -> b.remove(0)));
            }
            for (Check.Call call : calls) {
                check.due("it throws", Check.outcome(call).toString().startsWith("throws "), true);
                check.due("it changes nothing", Texts.state(b), before);
            }
        }
    }

    /** An object bears 512 calls: as many changes as that, and as many serials. */
    private static void manyCalls() {
        check.at("512 calls");
        PartitionBench b = new PartitionBench();
        for (int i = 0; i < 256; i++) {
            b.add(0, 64, 0, 1);
            b.remove(0);
        }
        check.due("the last serial", b.sector(63), 256063);
    }
}

import java.lang.reflect.InvocationTargetException;
import java.lang.reflect.Method;
import java.util.ArrayList;
import java.util.Comparator;
import java.util.List;
import java.util.Random;

/** Drives the program and the model with the same calls, chosen by fixed seeds, and compares all answers. */
public final class ModelTest {
    private static final int RUNS = Integer.getInteger("runs", 500);
    private static final int CALLS = 200;
    private static final String[] CHANGES = {"add", "addBy", "remove", "lock", "resize", "setMinimum", "set", "begin",
        "begin", "begin", "begin", "run", "run", "tear", "turnBack", "compact", "split", "join", "shrinkAll", "wipe", "roundUp", "undo",
        "saveState", "restoreState"};

    private static final String[] OF_A_MOVE = {"run", "tear", "turnBack", "move", "nextStep", "stepSector", "blocksAt",
        "copies", "owner", "place", "growsTo", "resizeReason", "resize", "reason", "gap", "wipe", "isWhole", "undo"};

    private final Check check = new Check();
    private final Random random;
    private final List<Method> methods = new ArrayList<>();
    private PartitionBench bench;
    private Model model;
    private StringBuilder story;

    private ModelTest(long seed) {
        random = new Random(seed);
        for (Method m : PartitionBench.class.getDeclaredMethods()) {
            if (java.lang.reflect.Modifier.isPublic(m.getModifiers())) {
                methods.add(m);
            }
        }
        methods.sort(Comparator.comparing(Method::getName));
    }

    public static void main(String[] args) throws Exception {
        ModelTest test = new ModelTest(Long.getLong("seed", 20261119L));
        for (int run = 0; run < RUNS; run++) {
            test.run(run);
        }
        test.check.end();
    }

    private void run(int run) throws Exception {
        check.at("run " + run);
        bench = new PartitionBench();
        model = new Model();
        story = new StringBuilder();
        load(setup());
        for (int i = 0; i < CALLS; i++) {
            if (random.nextInt(60) == 0) {
                load(random.nextInt(3) == 0 ? setup() : spoiled(setup()));
            } else if (model.now.moving >= 0 && random.nextInt(2) == 0) {
                call(named(OF_A_MOVE[random.nextInt(OF_A_MOVE.length)]));
            } else if (random.nextInt(3) > 0) {
                call(named(CHANGES[random.nextInt(CHANGES.length)]));
            } else {
                call(methods.get(random.nextInt(methods.size())));
            }
        }
        compareAll();
    }

    private Method named(String name) {
        for (Method m : methods) {
            if (m.getName().equals(name)) {
                return m;
            }
        }
        throw new IllegalStateException(name);
    }

    private int upTo(int most) {
        return random.nextInt(most + 1);
    }

    private String setup() {
        int length = random.nextInt(8) == 0 ? 64 + upTo(536) : 64 + upTo(40);
        int head = random.nextInt(2) == 0 ? 0 : upTo(9);
        int tail = random.nextInt(2) == 0 ? 0 : upTo(9);
        int align = random.nextInt(2) == 0 ? 1 : 1 + upTo(random.nextInt(3) == 0 ? 31 : 5);
        StringBuilder text = new StringBuilder("disk " + length + ";");
        text.append(head > 0 ? "head " + head + ";" : "").append(tail > 0 ? " tail " + tail + ";" : "");
        text.append(align > 1 ? "\nalign " + align + " ;" : "");
        text.append(random.nextInt(2) == 0 ? "" : "chunk " + (1 + upTo(15)) + ";");
        int at = head;
        int parts = 0;
        while (parts < 8 && random.nextInt(9) > 0) {
            int start = (at + upTo(random.nextInt(2) * 12) + align - 1) / align * align;
            int size = 1 + upTo(random.nextInt(3) == 0 ? 30 : 9);
            if (start + size > length - tail) {
                break;
            }
            text.append("part ").append(start).append(' ').append(size).append(' ').append(upTo(2));
            text.append(' ').append(1 + random.nextInt(size)).append(';');
            if (random.nextInt(7) == 0) {
                text.append("lock ").append(parts).append(';');
            }
            parts++;
            at = start + size;
        }
        return text.toString();
    }

    private String spoiled(String text) {
        StringBuilder s = new StringBuilder(text);
        int at = random.nextInt(s.length());
        String[] bits = {"part 5 5 0 1;", "lock 0;", "lock 1;", "chunk 3;", "align 2;", "head 1;", "tail 0;", "disk 70;",
            ";", " ", "0", "99", "\u00e9", "A", "\t", "\u0000", "x", "9999", "part"};
        switch (random.nextInt(4)) {
            case 0 -> s.setLength(at);
            case 1 -> s.deleteCharAt(at);
            case 2 -> s.insert(at, bits[random.nextInt(bits.length)]);
            default -> s.insert(text.indexOf(';', at) + 1, bits[random.nextInt(bits.length)]);
        }
        return s.toString();
    }

    private void load(String text) throws Exception {
        if (text.length() > 480) {
            return;
        }
        for (int at = 0; at < text.length(); at += 20) {
            call(named("appendInput"), Texts.word(text, at), Texts.word(text, at + 4), Texts.word(text, at + 8),
                Texts.word(text, at + 12), Texts.word(text, at + 16));
        }
        call(named("truncateInput"), model.input.length() - (20 - text.length() % 20) % 20);
        call(named("loadDisk"));
        call(named("errorCode"));
        call(named("errorOffset"));
    }

    private void call(Method m) throws Exception {
        Object[] args = new Object[m.getParameterCount()];
        for (int i = 0; i < args.length; i++) {
            args[i] = m.getParameterTypes()[i] == boolean.class ? (Object) random.nextBoolean() : number(m.getName(), i);
        }
        call(m, args);
    }

    /** An argument that is likely to be accepted, and now and then one that is not. */
    private int number(String name, int i) {
        if (random.nextInt(40) == 0) {
            int[] wild = {-1, Integer.MIN_VALUE, Integer.MAX_VALUE, 600, 601, 999, 1000, 64, 8, -100, 0};
            return wild[random.nextInt(wild.length)];
        }
        int length = model.now.data.length;
        switch (name) {
            case "count": return upTo(12);
            case "sector", "owner", "gapAt": return upTo(length);
            case "byStart", "overlapped": return upTo(i == 0 && name.equals("byStart") ? 8 : length);
            case "gap": return upTo(i == 0 ? 5 : 4);
            case "fit": return i == 0 ? upTo(20) : upTo(2);
            case "reason": return i == 0 ? start(length) : upTo(12);
            case "add": return new int[] {start(length), 1 + upTo(9), upTo(2), 1 + upTo(3)}[i];
            case "addBy": return new int[] {1 + upTo(12), upTo(2), 1 + upTo(3), upTo(2)}[i];
            case "set": return i == 0 ? 3 + upTo(1) : 1 + upTo(random.nextInt(3) == 0 ? 32 : 5);
            case "run": return 1 + upTo(random.nextInt(4) == 0 ? 20 : 2);
            case "move", "nextStep", "blocksAt": return upTo(9);
            case "cheapestMove": return 1 + upTo(random.nextInt(2) == 0 ? 60 : 20);
            case "ofKind": return upTo(3);
            case "stepSector": return upTo(6) - 1;
            case "outputByte", "truncateInput", "appendInput": return upTo(30) - 1;
            default: return i == 0 ? somePart() : second(name, length);
        }
    }

    private int second(String name, int length) {
        switch (name) {
            case "part": return upTo(7);
            case "resize", "resizeReason", "split", "setMinimum", "place": return upTo(14);
            case "begin", "stepsFor", "bestChunk", "moveReason": return target(length);
            default: return start(length);
        }
    }

    /** Mostly a start to which some partition can be moved, if a few tries find one. */
    private int target(int length) {
        for (int tries = 0; tries < 6; tries++) {
            int to = start(length);
            for (int part : model.now.parts.keySet()) {
                if (model.moveReason(part, to) == 0) {
                    return to;
                }
            }
        }
        return start(length);
    }

    private int somePart() {
        List<Integer> parts = new ArrayList<>(model.now.parts.keySet());
        return parts.isEmpty() || random.nextInt(10) == 0 ? upTo(8) : parts.get(random.nextInt(parts.size()));
    }

    /** Near a partition or anywhere, mostly a multiple of ALIGN. */
    private int start(int length) {
        int at = upTo(length);
        Model.P p = model.now.parts.get(upTo(7));
        if (p != null && random.nextInt(3) > 0) {
            at = p.start + upTo(12) - 6;
        }
        return random.nextInt(5) == 0 ? at : at - Math.floorMod(at, model.now.align);
    }

    private void call(Method m, Object... args) throws Exception {
        Method twin = Model.class.getDeclaredMethod(m.getName(), m.getParameterTypes());
        StringBuilder name = new StringBuilder(m.getName()).append('(');
        for (Object a : args) {
            name.append(name.charAt(name.length() - 1) == '(' ? "" : ", ").append(a);
        }
        name.append(')');
        Object want = answer(model, twin, args);
        Object got = answer(bench, m, args);
        story.append("\n  ").append(name).append(" -> ").append(want);
        if (!want.equals(got)) {
            check.due(story.append("\n  ").append(name).toString(), got, want);
            check.end();
        }
        check.due(name.toString(), got, want);
    }

    private static Object answer(Object on, Method m, Object[] args) throws Exception {
        try {
            return m.invoke(on, args);
        } catch (InvocationTargetException e) {
            return "throws " + e.getCause().getClass().getSimpleName();
        }
    }

    private void compareAll() throws Exception {
        int length = model.now.data.length;
        for (int s = 0; s < length; s++) {
            call(named("sector"), s);
            call(named("owner"), s);
        }
        for (int i = 0; i < 12; i++) {
            call(named("count"), i);
            call(named("move"), Math.min(i, 8));
        }
        for (int part = 0; part < 8; part++) {
            for (int what = 0; what < 7; what++) {
                call(named("part"), part, what);
            }
        }
        while (model.past.size() > 0) {
            call(named("undo"));
            for (int s = 0; s < length; s++) {
                call(named("sector"), s);
            }
        }
    }
}

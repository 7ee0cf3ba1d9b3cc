import java.lang.reflect.Constructor;
import java.lang.reflect.Field;
import java.lang.reflect.Method;
import java.lang.reflect.Modifier;
import java.util.Arrays;
import java.util.HashSet;
import java.util.Set;
import java.util.TreeSet;

/** The face of the class is that of the document: these members, and no other one that can be seen. */
public final class FaceTest {
    private static final Check check = new Check();
    private static final String[] METHODS = {
        "int appendInput(int,int,int,int,int)", "boolean truncateInput(int)", "int loadDisk()", "int errorCode()",
        "int errorOffset()", "int count(int)!A", "int part(int,int)!AN", "int sector(int)!I", "int owner(int)!I",
        "int place(int,int)!IN", "boolean isWhole(int)!N", "int byStart(int)!I", "int gap(int,int)!IA",
        "int largestGap()", "int fit(int,int)!A", "int reason(int,int)", "int overlapped(int,int)",
        "int add(int,int,int,int)!AS", "int addBy(int,int,int,int)!AS", "int remove(int)!SN",
        "boolean lock(int,boolean)!N", "int resizeReason(int,int)!N", "int resize(int,int)!SN",
        "int setMinimum(int,int)!AN", "int growsTo(int)!N", "int set(int,int)!A", "int moveReason(int,int)!N",
        "int stepsFor(int,int)!N", "int begin(int,int)!SN", "int run(int)!AS", "int tear()!S", "int turnBack()!S",
        "int move(int)!A", "int leftmost(int)!N", "int compact()!S", "int compactSteps()", "int cheapestMove(int)!AS",
        "int waste()", "float scatter()", "double used()", "int slack()", "int ofKind(int)!A", "int blocksAt(int)!A",
        "int copies(int)!N", "int split(int,int)!ASN", "int join(int)!SN", "int shrinkAll()", "int wipe()",
        "int roundUp(int)!SN", "int bestChunk(int,int)!N", "int rightmost(int)!N", "int behind(int)!N",
        "int gapAt(int)!I", "int verify()", "int nextStep(int)!A", "int stepSector(int,boolean)", "int printDisk()",
        "int outputByte(int)", "int undo()", "int saveState()", "int restoreState()!S"};

    public static void main(String[] args) {
        check.at("the face");
        Class<PartitionBench> face = PartitionBench.class;
        check.due("public and final", Modifier.isPublic(face.getModifiers()) && Modifier.isFinal(face.getModifiers()), true);
        check.due("its constructors", Arrays.toString(face.getDeclaredConstructors()),
            "[public PartitionBench()]");
        Set<String> shown = new TreeSet<>();
        Set<String> hidden = new HashSet<>();
        for (Method m : face.getDeclaredMethods()) {
            if (Modifier.isPublic(m.getModifiers())) {
                shown.add(signature(m));
            } else if (!m.isSynthetic()) {
                hidden.add(m.getName());
                check.due(m.getName() + " is private", Modifier.isPrivate(m.getModifiers()), true);
            }
        }
        check.due("its methods", shown, new TreeSet<>(Arrays.asList(METHODS)));
        for (Class<?> inside : face.getDeclaredClasses()) {
            check.due(inside.getName() + " is static", Modifier.isStatic(inside.getModifiers()), true);
            for (Method m : inside.getDeclaredMethods()) {
                hidden.add(m.getName());
            }
        }
        for (Method m : face.getDeclaredMethods()) {
            boolean both = Modifier.isPublic(m.getModifiers()) && hidden.contains(m.getName());
            check.due(m.getName() + " is no name of a hidden method, too", both, false);
        }
        fields(face);
        check.end();
    }

    private static String signature(Method m) {
        StringBuilder text = new StringBuilder(m.getReturnType().getName() + " " + m.getName() + "(");
        for (Class<?> type : m.getParameterTypes()) {
            text.append(text.charAt(text.length() - 1) == '(' ? "" : ",").append(type.getName());
        }
        text.append(')');
        for (Class<?> thrown : m.getExceptionTypes()) {
            text.append(text.indexOf("!") < 0 ? "!" : "");
            String name = thrown.getSimpleName();
            text.append(name.equals("IllegalStateException") ? 'S' : name.charAt(name.startsWith("Illegal") ? 7 : 0));
        }
        return text.toString();
    }

    private static void fields(Class<?> face) {
        Set<String> constants = new TreeSet<>();
        for (Field f : face.getDeclaredFields()) {
            int m = f.getModifiers();
            check.due(f.getName() + " is private, or a constant", Modifier.isPrivate(m) || Modifier.isStatic(m), true);
            check.due(f.getName() + " is final if it is static", !Modifier.isStatic(m) || Modifier.isFinal(m), true);
            if (Modifier.isPublic(m)) {
                constants.add(f.getName());
            }
        }
        check.due("its constants", constants,
            new TreeSet<>(Arrays.asList("NO_ERROR", "SYNTAX", "OUT_OF_RANGE", "TWICE", "TAKEN", "TOO_MANY")));
        for (Constructor<?> c : face.getConstructors()) {
            check.due("no parameters", c.getParameterCount(), 0);
        }
    }
}

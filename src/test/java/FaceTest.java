import java.lang.reflect.Constructor;
import java.lang.reflect.Field;
import java.lang.reflect.Member;
import java.lang.reflect.Method;
import java.lang.reflect.Modifier;
import java.util.ArrayList;
import java.util.Arrays;
import java.util.Collections;
import java.util.List;

/** The public face: each call with its types and exceptions as the document writes them, and nothing else. */
public final class FaceTest {
    private static final String I = " throws IndexOutOfBoundsException";
    private static final String[] FACE = {
        "int setStone(int, int, int)" + I + ", IllegalArgumentException",
        "int cut(int, int)" + I + ", IllegalStateException, UnsupportedOperationException",
        "int fill(int, int)" + I + ", IllegalStateException, UnsupportedOperationException",
        "boolean toggleLedge(int, int)" + I,
        "int setStepLimit(int) throws IllegalArgumentException, UnsupportedOperationException",
        "int addWinch(int, int, int, int)" + I + ", IllegalArgumentException, IllegalStateException",
        "int lift(int, int, int)" + I
            + ", NoSuchElementException, IllegalStateException, UnsupportedOperationException",
        "int crush(int, int) throws IllegalArgumentException, IllegalStateException",
        "int height(int, int)" + I,
        "int stone(int, int)" + I,
        "boolean isLedge(int, int)" + I,
        "int looseBlocks(int, int)" + I,
        "int topBlock(int, int)" + I + ", NoSuchElementException",
        "int steepestStep(int, int)" + I,
        "boolean canCut(int, int)" + I,
        "int cuttableCells()",
        "int cellsAt(int) throws IllegalArgumentException",
        "int cutsToLower(int, int, int)" + I + ", IllegalArgumentException",
        "int cutsToLowerBySpreading(int, int, int)" + I + ", IllegalArgumentException",
        "int seamSize(int, int)" + I,
        "int seamVolume(int, int)" + I,
        "int seamCount()",
        "int seamCountByMerging()",
        "int footpath(int, int, int, int)" + I + ", NoSuchElementException",
        "int winchCount()",
        "int liftableCells(int)" + I,
        "int bestWinch(int, int)" + I + ", NoSuchElementException",
        "int inYard(int) throws IllegalArgumentException",
        "int yardWeight()",
        "int rubble()",
        "int stepLimit()",
        "int cutTotal()",
        "long workTotal()",
        "double meanHeight()",
        "float liftedShare() throws ArithmeticException",
        "boolean isConsistent()",
        "int append(char) throws IllegalStateException",
        "int run() throws IllegalArgumentException, UnsupportedOperationException",
        "int errorPosition() throws NoSuchElementException",
        "int failedCommand() throws NoSuchElementException",
        "int writeRow(int)" + I,
        "char outputAt(int)" + I,
        "int undo() throws IllegalStateException",
        "void save()",
        "void restore() throws IllegalStateException",
    };

    public static void main(String[] args) {
        Class<?> face = TerraceQuarry.class;
        Check.due(true, () -> Modifier.isPublic(face.getModifiers()) && Modifier.isFinal(face.getModifiers()));
        methodsAreTheFace(face);
        constructorIsTheFace(face);
        restIsPrivate(face);
        noPrivateMethodHasAPublicName(face);
        Check.end("FaceTest");
    }

    private static void methodsAreTheFace(Class<?> face) {
        List<String> want = new ArrayList<>(Arrays.asList(FACE));
        List<String> got = new ArrayList<>();
        for (Method method : face.getDeclaredMethods()) {
            if (!Modifier.isPrivate(method.getModifiers()) && !method.isSynthetic()) {
                got.add(written(method));
                Check.due(Modifier.PUBLIC, method::getModifiers);
            }
        }
        Collections.sort(want);
        Collections.sort(got);
        Check.due(want, () -> got);
    }

    private static String written(Method method) {
        StringBuilder text = new StringBuilder(method.getReturnType().getSimpleName());
        text.append(' ').append(method.getName()).append(names("(", method.getParameterTypes())).append(')');
        if (method.getExceptionTypes().length > 0) {
            text.append(names(" throws ", method.getExceptionTypes()));
        }
        return text.toString();
    }

    private static String names(String start, Class<?>[] types) {
        List<String> names = new ArrayList<>();
        for (Class<?> type : types) {
            names.add(type.getSimpleName());
        }
        return start + String.join(", ", names);
    }

    private static void constructorIsTheFace(Class<?> face) {
        Constructor<?>[] constructors = face.getDeclaredConstructors();
        Check.due(1, () -> constructors.length);
        Check.due(Modifier.PUBLIC, () -> constructors[0].getModifiers());
        Check.due(0, () -> constructors[0].getParameterCount() + constructors[0].getExceptionTypes().length);
    }

    private static void restIsPrivate(Class<?> face) {
        List<Member> fields = new ArrayList<>();
        for (Field field : face.getDeclaredFields()) {
            if (!Modifier.isPrivate(field.getModifiers())) {
                fields.add(field);
            }
        }
        Check.due(List.of(), () -> fields);
        for (Class<?> inside : face.getDeclaredClasses()) {
            Check.due(true, () -> Modifier.isStatic(inside.getModifiers()));
            Check.due(false, () -> Modifier.isPublic(inside.getModifiers()));
            Check.due(false, () -> Modifier.isProtected(inside.getModifiers()));
        }
    }

    private static void noPrivateMethodHasAPublicName(Class<?> face) {
        for (Method method : face.getDeclaredMethods()) {
            if (Modifier.isPrivate(method.getModifiers())) {
                for (String line : FACE) {
                    Check.due(false, () -> line.contains(" " + method.getName() + "("));
                }
            }
        }
    }
}

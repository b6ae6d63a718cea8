import java.lang.reflect.Constructor;
import java.lang.reflect.Field;
import java.lang.reflect.Member;
import java.lang.reflect.Method;
import java.lang.reflect.Modifier;
import java.util.Arrays;
import java.util.List;
import java.util.Set;
import java.util.TreeSet;

/**
 * The public face of the class is the document's and no more, and no call throws, whatever its
 * arguments are and whatever was called before it.
 */
public final class FaceTests {
    private static final List<String> CONSTANTS = Arrays.asList(
        "NO_SUCH_PROVISION=-1", "NO_SUCH_POSITION=-2", "NO_SUCH_AMENDMENT=-3", "NO_SUCH_DAY=-4", "BAD_VALUE=-5",
        "FULL=-6", "NO_LABEL=-7", "TOO_DEEP=-8", "NONE=-9", "DANGLING=-10", "MISSING=-11",
        "INDEX_OUT_OF_RANGE=-12", "WRONG_TYPE=-13", "NEGATIVE_LENGTH=-14", "SYNTAX_ERROR=-1000");
    private static final List<String> METHODS = Arrays.asList(
        "addProvision/2", "insertProvision/2", "setText/2", "addReference/2", "clear/0", "originalCount/0",
        "appendCharacter/1", "clearInput/0", "addAmendment/1", "amendmentCount/0", "instructionCount/1",
        "setCommencement/2", "removeLastAmendment/0", "provisionCount/1", "levelAt/2", "textAt/2",
        "isRepealedAt/2", "pathLengthAt/2", "pathCharacterAt/3", "originAt/2", "creatorAt/2", "find/1",
        "firstDifference/2", "referenceCountAt/2", "referenceAt/3", "danglingCount/1", "conflictCount/1",
        "conflictAmendment/2", "conflictInstruction/2", "conflictReason/2", "doCommute/2", "averageLevel/1",
        "repealedShare/1", "newShelf/3", "place/3", "shelved/2", "copyShelf/2", "saveSnapshot/0",
        "restoreSnapshot/0");
    private static final int[] EXTREMES = {
        Integer.MIN_VALUE, -1000, -9, -2, -1, 0, 1, 2, 7, 8, 29, 30, 60, 120, 9999, 10000, Integer.MAX_VALUE};

    private static int wrong = 0;

    public static void main(String[] args) throws Exception {
        checkClass();
        checkConstants();
        checkMethods();
        checkNestedClasses();
        callWithExtremes(new StatuteConsolidator());
        callWithExtremes(filled());
        System.out.println(wrong == 0 ? "the face is the document's" : wrong + " faults in the face");
        if (wrong != 0) {
            System.exit(1);
        }
    }

    private static void report(String text) {
        wrong++;
        System.out.println(text);
    }

    private static void checkClass() {
        int modifiers = StatuteConsolidator.class.getModifiers();
        if (!Modifier.isPublic(modifiers) || !Modifier.isFinal(modifiers)) {
            report("the class is not public and final");
        }
        Constructor<?>[] constructors = StatuteConsolidator.class.getDeclaredConstructors();
        if (constructors.length != 1 || !Modifier.isPublic(constructors[0].getModifiers())
            || constructors[0].getParameterCount() != 0) {
            report("the constructor is not the document's");
        }
    }

    private static boolean isShown(Member member) {
        return !Modifier.isPrivate(member.getModifiers());
    }

    private static void checkConstants() throws Exception {
        Set<String> seen = new TreeSet<>();
        for (Field field : StatuteConsolidator.class.getDeclaredFields()) {
            if (Modifier.isStatic(field.getModifiers()) && !Modifier.isFinal(field.getModifiers())) {
                report(field.getName() + " is static state");
            }
            if (isShown(field)) {
                seen.add(field.getName() + "=" + field.getInt(null));
            }
        }
        if (!seen.equals(new TreeSet<>(CONSTANTS))) {
            report("the constants are " + seen);
        }
    }

    private static void checkMethods() {
        Set<String> shown = new TreeSet<>();
        Set<String> names = new TreeSet<>();
        for (Method method : StatuteConsolidator.class.getDeclaredMethods()) {
            if (isShown(method)) {
                shown.add(method.getName() + "/" + method.getParameterCount());
                names.add(method.getName());
                checkTypes(method);
            }
        }
        if (!shown.equals(new TreeSet<>(METHODS))) {
            report("the methods are " + shown);
        }
        for (Method method : StatuteConsolidator.class.getDeclaredMethods()) {
            if (!isShown(method) && names.contains(method.getName())) {
                report("a private method bears the public name " + method.getName());
            }
        }
    }

    private static void checkTypes(Method method) {
        Class<?> due = method.getName().equals("repealedShare") ? long.class : int.class;
        if (method.getReturnType() != due || !Modifier.isPublic(method.getModifiers())) {
            report(method.getName() + " is not public or returns another type");
        }
        for (Class<?> type : method.getParameterTypes()) {
            if (type != int.class) {
                report(method.getName() + " takes another type");
            }
        }
    }

    private static void checkNestedClasses() {
        for (Class<?> nested : StatuteConsolidator.class.getDeclaredClasses()) {
            int modifiers = nested.getModifiers();
            if (Modifier.isPublic(modifiers) || Modifier.isProtected(modifiers) || !Modifier.isStatic(modifiers)) {
                report(nested.getSimpleName() + " is shown or not static");
            }
        }
    }

    private static StatuteConsolidator filled() {
        StatuteConsolidator x = new StatuteConsolidator();
        x.addProvision(-1, 1);
        x.addProvision(0, 1);
        x.addProvision(1, 1);
        while (x.originalCount() < 30) {
            x.addProvision(-1, 1);
        }
        for (int amendment = 0; amendment < 8; amendment++) {
            for (char sign : ("add 1 1;move 1(1) 1(2);repeal 1(1);renumber 1;insert 2 2;" + "add 9 1;".repeat(8) + "move 3 4").toCharArray()) {
                x.appendCharacter(sign);
            }
            x.addAmendment(amendment);
        }
        x.newShelf(0, 0, 10);
        return x;
    }

    /** The methods that change nothing for good come first, so that the others meet the filled object. */
    private static void callWithExtremes(StatuteConsolidator x) {
        for (String signature : METHODS) {
            if (!signature.startsWith("clear/")) {
                callAll(x, signature.substring(0, signature.indexOf('/')));
            }
        }
        callAll(x, "clear");
    }

    private static void callAll(StatuteConsolidator x, String name) {
        for (Method method : StatuteConsolidator.class.getDeclaredMethods()) {
            if (Modifier.isPublic(method.getModifiers()) && method.getName().equals(name)) {
                callAll(x, method, new Object[method.getParameterCount()], 0);
            }
        }
    }

    private static void callAll(StatuteConsolidator x, Method method, Object[] arguments, int at) {
        if (at < arguments.length) {
            for (int value : EXTREMES) {
                arguments[at] = value;
                callAll(x, method, arguments, at + 1);
            }
            return;
        }
        try {
            method.invoke(x, arguments);
        } catch (ReflectiveOperationException fault) {
            report(method.getName() + Arrays.toString(arguments) + " threw " + fault.getCause());
        }
    }
}

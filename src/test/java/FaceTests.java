import java.lang.reflect.Method;
import java.lang.reflect.Modifier;
import java.util.ArrayList;
import java.util.List;
import java.util.TreeSet;

/** The class shows the document's face, and nothing beside it. */
public final class FaceTests {
    private static final String[] FACE = {
        "int addStatement(int) IllegalArgumentException IllegalStateException",
        "int addRead(int,int,int,int,int) IndexOutOfBoundsException IllegalArgumentException IllegalStateException",
        "int dropReads(int) IndexOutOfBoundsException",
        "boolean setLasting(int,boolean) IndexOutOfBoundsException",
        "int setField(int,int) IllegalArgumentException",
        "boolean setSchedule(int,int) IllegalArgumentException",
        "boolean setOffset(int,int) IndexOutOfBoundsException IllegalArgumentException",
        "boolean isAllowed()",
        "boolean isAllowedWith(int,int) IllegalArgumentException",
        "boolean isReadInOrder(int,int) IndexOutOfBoundsException",
        "int steps()",
        "int stepOf(int,int,int) IndexOutOfBoundsException",
        "int statementAt(int) IndexOutOfBoundsException",
        "int pointAt(int) IndexOutOfBoundsException",
        "int endOf(int,int,int) IndexOutOfBoundsException",
        "int liveAt(int) IndexOutOfBoundsException",
        "int mostLive()",
        "int mostLiveOf(int) IndexOutOfBoundsException",
        "int conflictsOf(int,int,int,int) IndexOutOfBoundsException",
        "int conflictPairs(int) IndexOutOfBoundsException",
        "int keepWhole(int) IndexOutOfBoundsException",
        "int keepRest(int,int) IndexOutOfBoundsException IllegalArgumentException",
        "int keepTwoRests(int,int,int) IndexOutOfBoundsException IllegalArgumentException",
        "int keepSlant(int,int,int) IndexOutOfBoundsException IllegalArgumentException",
        "int contract()",
        "int windowSize(int) IndexOutOfBoundsException",
        "int room()",
        "int placeOf(int,int,int) IndexOutOfBoundsException",
        "boolean isRight(int) IndexOutOfBoundsException",
        "int leastRest(int) IndexOutOfBoundsException",
        "int leastRestByDifferences(int) IndexOutOfBoundsException",
        "int leastRowRest(int) IndexOutOfBoundsException",
        "int leastColumnRest(int) IndexOutOfBoundsException",
        "int leastSlantModulus(int) IndexOutOfBoundsException",
        "int leastSlant(int) IndexOutOfBoundsException",
        "int leastJointRest(int,int) IndexOutOfBoundsException",
        "int valueOf(int,int,int) IndexOutOfBoundsException",
        "int contractedValueOf(int,int,int) IndexOutOfBoundsException",
        "int firstWrongStep()",
        "int bestRowWeight() IllegalStateException",
        "int bestColumnWeight() IllegalStateException",
        "int bestRoom() IllegalStateException",
    };

    private static String written(Method method) {
        List<String> parameters = new ArrayList<>();
        for (Class<?> type : method.getParameterTypes()) {
            parameters.add(type.getSimpleName());
        }
        StringBuilder text = new StringBuilder();
        text.append(method.getReturnType().getSimpleName()).append(' ').append(method.getName());
        text.append('(').append(String.join(",", parameters)).append(')');
        for (Class<?> exception : method.getExceptionTypes()) {
            text.append(' ').append(exception.getSimpleName());
        }
        return text.toString();
    }

    public static void main(String[] arguments) {
        TreeSet<String> shown = new TreeSet<>();
        TreeSet<String> names = new TreeSet<>();
        for (Method method : CellWindows.class.getDeclaredMethods()) {
            if (!Modifier.isPrivate(method.getModifiers())) {
                shown.add(written(method));
                names.add(method.getName());
            }
        }
        Check.same("the methods", shown.toString(), new TreeSet<>(List.of(FACE)).toString());
        for (Method method : CellWindows.class.getDeclaredMethods()) {
            if (Modifier.isPrivate(method.getModifiers())) {
                Check.same("private " + method.getName() + " has a public name",
                    String.valueOf(names.contains(method.getName())), "false");
            }
        }
        Check.same("fields that show", String.valueOf(CellWindows.class.getFields().length), "0");
        Check.same("constructors", String.valueOf(CellWindows.class.getConstructors().length), "1");
        Check.same("constructor's parameters",
            String.valueOf(CellWindows.class.getConstructors()[0].getParameterCount()), "0");
        Check.same("modifiers", Modifier.toString(CellWindows.class.getModifiers()), "public final");
        Check.finish();
    }
}

import java.lang.reflect.Constructor;
import java.lang.reflect.Field;
import java.lang.reflect.Method;
import java.lang.reflect.Modifier;
import java.util.Set;
import java.util.TreeSet;

/** The class shows the document's face and nothing else. */
public final class FaceTest {
    private static final String[] FACE = {
        "int addTransition(int,int,int,int,int) IllegalArgumentException IllegalStateException",
        "int removeTransition(int) IndexOutOfBoundsException",
        "int transition(int,int) IndexOutOfBoundsException IllegalArgumentException",
        "int transitionCount()",
        "int setState(int) IllegalArgumentException",
        "int put(int,int) IndexOutOfBoundsException IllegalArgumentException IllegalStateException",
        "int clear(int) IndexOutOfBoundsException",
        "int state()",
        "int length(int) IndexOutOfBoundsException",
        "int letter(int,int) IndexOutOfBoundsException NoSuchElementException",
        "int enabled(boolean)",
        "int fire(int) IndexOutOfBoundsException IllegalStateException",
        "int lose(int,int) IndexOutOfBoundsException NoSuchElementException",
        "int undo() IllegalStateException",
        "int increase()",
        "boolean isBelow(int) IndexOutOfBoundsException",
        "int embeddings(int) IndexOutOfBoundsException",
        "int common()",
        "int subwords(int) IndexOutOfBoundsException",
        "int addGoal() IllegalStateException",
        "int clearGoals()",
        "int analyze() UnsupportedOperationException",
        "int lastRound() UnsupportedOperationException IllegalStateException",
        "int basisSize(int) UnsupportedOperationException IllegalStateException IndexOutOfBoundsException",
        "int basis(int,int,int) UnsupportedOperationException IllegalStateException IndexOutOfBoundsException",
        "int basisLetter(int,int,int) UnsupportedOperationException IllegalStateException IndexOutOfBoundsException",
        "int coveringStates() UnsupportedOperationException IllegalStateException",
        "int least(int) UnsupportedOperationException IllegalStateException IllegalArgumentException",
        "int distance() UnsupportedOperationException IllegalStateException",
        "int covering(int) UnsupportedOperationException IllegalStateException NoSuchElementException",
        "int lost(int) UnsupportedOperationException IllegalStateException NoSuchElementException",
        "int statesAfter(int) IllegalArgumentException",
        "boolean isLast(int,int) IndexOutOfBoundsException IllegalArgumentException",
        "void append(char) IllegalStateException",
        "int read() IllegalArgumentException IllegalStateException",
        "int faultPosition()",
        "void save()",
        "void restore() IllegalStateException",
    };

    public static void main(String[] args) {
        Set<String> want = new TreeSet<>(Set.of(FACE));
        Set<String> got = new TreeSet<>();
        Set<String> hidden = new TreeSet<>();
        for (Method method : LossyChannels.class.getDeclaredMethods()) {
            if (Modifier.isPublic(method.getModifiers())) {
                got.add(describe(method));
            } else {
                hidden.add(method.getName());
                Check.due(method.getName() + " is private", Modifier.isPrivate(method.getModifiers()), true);
            }
        }
        Check.due("the face", got, want);
        for (Method method : LossyChannels.class.getMethods()) {
            Check.due("hidden " + method.getName(), hidden.contains(method.getName()), false);
        }
        for (Field field : LossyChannels.class.getDeclaredFields()) {
            Check.due(field.getName() + " is private", Modifier.isPrivate(field.getModifiers()), true);
        }
        Constructor<?>[] constructors = LossyChannels.class.getDeclaredConstructors();
        Check.due("constructors", constructors.length, 1);
        Check.due("its parameters", constructors[0].getParameterCount(), 0);
        Check.due("it is public", Modifier.isPublic(constructors[0].getModifiers()), true);
        int modifiers = LossyChannels.class.getModifiers();
        Check.due("public and final", Modifier.isPublic(modifiers) && Modifier.isFinal(modifiers), true);
        Check.finish("FaceTest");
    }

    private static String describe(Method method) {
        StringBuilder text = new StringBuilder(method.getReturnType().getSimpleName());
        text.append(' ').append(method.getName()).append('(');
        for (Class<?> parameter : method.getParameterTypes()) {
            text.append(text.charAt(text.length() - 1) == '(' ? "" : ",").append(parameter.getSimpleName());
        }
        text.append(')');
        for (Class<?> exception : method.getExceptionTypes()) {
            text.append(' ').append(exception.getSimpleName());
        }
        return text.toString();
    }
}

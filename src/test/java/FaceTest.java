import java.lang.reflect.Constructor;
import java.lang.reflect.Field;
import java.lang.reflect.Method;
import java.lang.reflect.Modifier;
import java.util.HashSet;
import java.util.Set;

/** The public face of the document and its constants, as another class sees them. */
public final class FaceTest {
    private static final Check CHECK = new Check("FaceTest");

    private static final String[] METHODS = {
        "int set(int,int)", "int cutoff(int,int)", "int mail(int,int,int,int)", "int pass(int)", "int batch(int,int)",
        "int machine(int,int)", "int route(int,int)", "int count(int)", "long delayed(int)", "int queued(int,int)",
        "int sortedAt()", "int wouldMiss()", "int least(int,int)", "int put(long)", "int wipe()", "int fault()",
        "int carryOut()", "int undo()", "int save(int)", "int restore(int)"
    };

    private static final String[] CONSTANTS = {
        "NO_SUCH=-1", "BAD_VALUE=-2", "BAD_TEXT=-3", "TOO_MANY=-4", "NOT_POSSIBLE=-5", "NONE=-6", "SETUP=0", "REJECT=1",
        "STAFF=2", "HAND=3", "SHIFT=4", "OVER=5", "SPEED0=6", "SPEED1=7", "SPEED2=8"
    };

    public static void main(String[] args) throws Exception {
        methods();
        constants();
        CHECK.finish();
    }

    private static void methods() {
        Set<String> promised = new HashSet<>(Set.of(METHODS));
        Set<String> names = new HashSet<>();
        for (String method : METHODS) {
            names.add(method.substring(method.indexOf(' ') + 1, method.indexOf('(')));
        }
        for (Method method : LetterRuns.class.getDeclaredMethods()) {
            if (Modifier.isPrivate(method.getModifiers())) {
                CHECK.holds(method + " bears the name of a public one", !names.contains(method.getName()));
            } else {
                CHECK.due(method + " modifiers", method.getModifiers(), Modifier.PUBLIC);
                CHECK.holds(method + " is promised", promised.remove(signature(method)));
            }
        }
        CHECK.holds("missing " + promised, promised.isEmpty());
        Constructor<?>[] constructors = LetterRuns.class.getDeclaredConstructors();
        CHECK.due("constructors", constructors.length, 1);
        CHECK.due("its parameters", constructors[0].getParameterCount(), 0);
        CHECK.due("its modifiers", constructors[0].getModifiers(), Modifier.PUBLIC);
        CHECK.due("the class", LetterRuns.class.getModifiers(), Modifier.PUBLIC | Modifier.FINAL);
    }

    private static String signature(Method method) {
        StringBuilder signature = new StringBuilder();
        signature.append(method.getReturnType().getName()).append(' ').append(method.getName()).append('(');
        for (Class<?> parameter : method.getParameterTypes()) {
            signature.append(signature.charAt(signature.length() - 1) == '(' ? "" : ",").append(parameter.getName());
        }
        return signature.append(')').toString();
    }

    private static void constants() throws Exception {
        Set<String> promised = new HashSet<>(Set.of(CONSTANTS));
        for (Field field : LetterRuns.class.getDeclaredFields()) {
            int modifiers = field.getModifiers();
            if (Modifier.isPrivate(modifiers)) {
                CHECK.holds(field + ": what is static is final", !Modifier.isStatic(modifiers) || Modifier.isFinal(modifiers));
            } else {
                CHECK.due(field + " modifiers", modifiers, Modifier.PUBLIC | Modifier.STATIC | Modifier.FINAL);
                CHECK.holds(field + " is an int", field.getType() == int.class);
                CHECK.holds(field + " is promised", promised.remove(field.getName() + "=" + field.getInt(null)));
            }
        }
        CHECK.holds("missing " + promised, promised.isEmpty());
    }
}

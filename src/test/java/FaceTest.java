import java.lang.reflect.Constructor;
import java.lang.reflect.Field;
import java.lang.reflect.Method;
import java.lang.reflect.Modifier;
import java.util.Arrays;
import java.util.Set;
import java.util.TreeSet;

/** The class has the document's public face, and no other member that is seen from outside. */
public final class FaceTest {
    private static final String[] FACE = {
        "int add(int,int,int)", "long best(int,int,int)", "boolean cfDone()", "int cfNext()",
        "boolean cfStart(int)", "int cmp(int,int)", "int denLimb(int,int)", "int div(int,int,int)",
        "boolean fits(int)", "int floorSmall(int)", "int mul(int,int,int)", "int numLimb(int,int)",
        "int set(int,int,int)", "int sign(int)", "int sub(int,int,int)"
    };

    private static int wrong = 0;

    private static void due(String what, Object got, Object want) {
        if (!got.equals(want)) {
            wrong++;
            System.out.println(what + ": " + got + ", due is " + want);
        }
    }

    private static String parameters(Class<?>[] types) {
        StringBuilder text = new StringBuilder("(");
        for (Class<?> type : types) {
            text.append(text.length() > 1 ? "," : "").append(type.getName());
        }
        return text.append(")").toString();
    }

    private static void checkMethods() {
        Set<String> seen = new TreeSet<>();
        Set<String> names = new TreeSet<>();
        for (String method : FACE) {
            names.add(method.substring(method.indexOf(' ') + 1, method.indexOf('(')));
        }
        for (Method method : ContinuedRatios.class.getDeclaredMethods()) {
            String text = method.getReturnType() + " " + method.getName() + parameters(method.getParameterTypes());
            if (Modifier.isPrivate(method.getModifiers())) {
                due("private method with a public name: " + text, names.contains(method.getName()), false);
            } else {
                due("public and of an object: " + text, method.getModifiers(), Modifier.PUBLIC);
                seen.add(text);
            }
        }
        due("methods", seen, new TreeSet<>(Arrays.asList(FACE)));
    }

    private static void checkFields() {
        for (Field field : ContinuedRatios.class.getDeclaredFields()) {
            due("private: " + field.getName(), Modifier.isPrivate(field.getModifiers()), true);
        }
    }

    private static void checkConstructors() {
        Constructor<?>[] constructors = ContinuedRatios.class.getDeclaredConstructors();
        due("constructors", constructors.length, 1);
        due("constructor is public", constructors[0].getModifiers(), Modifier.PUBLIC);
        due("constructor", parameters(constructors[0].getParameterTypes()), "(int,int)");
    }

    public static void main(String[] args) {
        due("class", ContinuedRatios.class.getModifiers(), Modifier.PUBLIC | Modifier.FINAL);
        checkMethods();
        checkFields();
        checkConstructors();
        System.out.println(wrong == 0 ? "the face is as due" : wrong + " answers are not as due");
        if (wrong != 0) {
            System.exit(1);
        }
    }
}

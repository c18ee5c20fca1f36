import java.lang.reflect.Constructor;
import java.lang.reflect.Field;
import java.lang.reflect.Method;
import java.lang.reflect.Modifier;
import java.util.Arrays;
import java.util.HashSet;
import java.util.Set;
import java.util.TreeSet;

/** The public face, to the letter, and rule 1 of the language: nothing else of the class can be seen. */
public final class FaceTest {
    private static final String[] FACE = {
        "int sign(int)", "boolean end(int)", "int loaf()", "int guests()", "int deeds()", "int rule()",
        "int cell(int,int)", "int guest(int,int)", "int worth(int,int)", "int taste(int,int,int)",
        "int sheet(int,int,int,int)", "int give(int,int,int)", "int back(int,int)", "int mouse(int)",
        "int supper()", "int undo()", "int seen(int,int)", "int envy()", "int wronged()", "int happiest()",
        "int pieces(int)", "int trade(int,int)", "int slices(int)", "int quarrel()", "int stretch()",
        "int richest(int,int)", "int parts(int,int)", "int calm()", "int cuts(int,int)", "int byturns()",
        "int lies(int)", "int chose(int,int)", "int forget()", "int tastes(int)", "int offer(int)",
        "int claims()", "int settle(int,int)", "int nothing()", "int ate(int)", "int enough(int,int)",
        "int wide(int,int)", "int suppers(int,int)", "boolean keep(int)", "boolean again(int)",
        "int count(int)", "long row(int)"};

    public static void main(String[] args) {
        Check.due("public and final", ToOneCrumb.class.getModifiers(), Modifier.PUBLIC | Modifier.FINAL);
        Check.due("methods", methods().equals(new TreeSet<>(Arrays.asList(FACE))), true);
        fieldsAndConstructors();
        names();
        Check.finish("FaceTest");
    }

    private static Set<String> methods() {
        Set<String> seen = new TreeSet<>();
        for (Method method : ToOneCrumb.class.getDeclaredMethods()) {
            if (!Modifier.isPrivate(method.getModifiers())) {
                StringBuilder face = new StringBuilder(method.getReturnType() + " " + method.getName() + "(");
                for (Class<?> type : method.getParameterTypes()) {
                    face.append(face.charAt(face.length() - 1) == '(' ? "" : ",").append(type);
                }
                seen.add(face.append(')').toString());
                Check.due(method + " is public", Modifier.isPublic(method.getModifiers()), true);
            }
        }
        return seen;
    }

    private static void fieldsAndConstructors() {
        for (Field field : ToOneCrumb.class.getDeclaredFields()) {
            boolean isConstant = field.getName().equals("NONE");
            Check.due(field + " is private", Modifier.isPrivate(field.getModifiers()), !isConstant);
            if (Modifier.isStatic(field.getModifiers())) {
                Check.due(field + " is final", Modifier.isFinal(field.getModifiers()), true);
            }
        }
        Constructor<?>[] constructors = ToOneCrumb.class.getDeclaredConstructors();
        Check.due("constructors", constructors.length, 1);
        Check.due("its arguments", constructors[0].getParameterCount(), 0);
        Check.due("it is public", Modifier.isPublic(constructors[0].getModifiers()), true);
    }

    private static void names() {
        Set<String> taken = new HashSet<>();
        for (String method : FACE) {
            taken.add(method.substring(method.indexOf(' ') + 1, method.indexOf('(')));
        }
        Class<?>[] inside = ToOneCrumb.class.getDeclaredClasses();
        Check.due("at most some twelve classes", inside.length <= 12, true);
        for (Class<?> type : inside) {
            Check.due(type + " is static", Modifier.isStatic(type.getModifiers()), true);
            for (Method method : type.getDeclaredMethods()) {
                Check.due(method + " bears a public name", taken.contains(method.getName()), false);
            }
        }
        for (Method method : ToOneCrumb.class.getDeclaredMethods()) {
            if (Modifier.isPrivate(method.getModifiers())) {
                Check.due(method + " bears a public name", taken.contains(method.getName()), false);
            }
        }
    }
}

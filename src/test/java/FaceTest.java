import java.io.IOException;
import java.lang.reflect.Constructor;
import java.lang.reflect.Field;
import java.lang.reflect.Method;
import java.lang.reflect.Modifier;
import java.nio.file.Files;
import java.nio.file.Path;
import java.util.ArrayList;
import java.util.List;
import java.util.TreeSet;

/** The public face: exactly the methods that the document lists, with their exceptions in its order. */
public final class FaceTest {
    private FaceTest() {
    }

    public static void main(String[] args) throws IOException {
        Check.same("face", new TreeSet<>(facesOfClass()).toString(), new TreeSet<>(facesOfDocument()).toString());
        Check.same("class is final", Modifier.isFinal(FlyTreasury.class.getModifiers()), true);
        Check.same("class is public", Modifier.isPublic(FlyTreasury.class.getModifiers()), true);
        Check.same("superclass", FlyTreasury.class.getSuperclass(), Object.class);
        Check.same("interfaces", FlyTreasury.class.getInterfaces().length, 0);
        Check.same("constructors", FlyTreasury.class.getDeclaredConstructors().length, 1);
        for (Constructor<?> constructor : FlyTreasury.class.getDeclaredConstructors()) {
            Check.same("constructor", constructor.toString(), "public FlyTreasury()");
        }
        for (Field field : FlyTreasury.class.getDeclaredFields()) {
            Check.same("private " + field, field.isSynthetic() || Modifier.isPrivate(field.getModifiers()), true);
            boolean shared = Modifier.isStatic(field.getModifiers()) && !Modifier.isFinal(field.getModifiers());
            Check.same("static and not final " + field, shared, false);
        }
        privateNames();
        Check.finish();
    }

    private static void privateNames() {
        TreeSet<String> faces = new TreeSet<>();
        for (Method method : FlyTreasury.class.getDeclaredMethods()) {
            if (Modifier.isPublic(method.getModifiers())) {
                faces.add(method.getName());
            }
        }
        for (Method method : FlyTreasury.class.getDeclaredMethods()) {
            if (!method.isSynthetic() && !Modifier.isPublic(method.getModifiers())) {
                Check.same("private " + method, Modifier.isPrivate(method.getModifiers()), true);
                Check.same("own name " + method, faces.contains(method.getName()), false);
            }
        }
    }

    private static List<String> facesOfClass() {
        List<String> faces = new ArrayList<>();
        for (Method method : FlyTreasury.class.getDeclaredMethods()) {
            if (Modifier.isPublic(method.getModifiers())) {
                faces.add(faceOf(method));
            }
        }
        return faces;
    }

    static String faceOf(Method method) {
        List<String> parameters = new ArrayList<>();
        for (Class<?> type : method.getParameterTypes()) {
            parameters.add(type.getSimpleName());
        }
        List<String> exceptions = new ArrayList<>();
        for (Class<?> type : method.getExceptionTypes()) {
            exceptions.add(type.getSimpleName());
        }
        return Modifier.toString(method.getModifiers()) + " " + method.getReturnType().getSimpleName() + " "
            + method.getName() + parameters + exceptions;
    }

    private static List<String> facesOfDocument() throws IOException {
        List<String> faces = new ArrayList<>();
        for (String line : Files.readAllLines(Path.of("../shared/DOC.md"))) {
            if (line.startsWith("    public ") && !line.contains(" FlyTreasury(")) {
                faces.add(faceOfLine(line.trim()));
            }
        }
        return faces;
    }

    static String faceOfLine(String line) {
        String head = line.substring(0, line.indexOf('('));
        String[] parameters = line.substring(line.indexOf('(') + 1, line.indexOf(')')).split(", ");
        List<String> types = new ArrayList<>();
        for (String parameter : parameters) {
            if (!parameter.isEmpty()) {
                types.add(parameter.substring(0, parameter.indexOf(' ')));
            }
        }
        String tail = line.substring(line.indexOf(')') + 1).replace(";", "").replace(" throws ", "");
        return head + types + (tail.isEmpty() ? List.of() : List.of(tail.split(", ")));
    }
}

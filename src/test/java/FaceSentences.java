import java.lang.reflect.Method;
import java.lang.reflect.Modifier;
import java.util.ArrayList;
import java.util.List;
import java.util.NoSuchElementException;

/** The section "The public face", line by line, and the line of each promise that repeats one of its methods. */
final class FaceSentences {
    private FaceSentences() {
    }

    static void run() {
        Sentence.testEach(FaceSentences::theClass, FaceSentences::theConstructor, FaceSentences::theMethods,
            FaceSentences::theMethodOfEachPromise, FaceSentences::theImport);
    }

    private static Sentence ofFace(String text) {
        return Sentence.ofSection("The public face", text);
    }

    private static void theClass() {
        Sentence s = ofFace("public final class FlyTreasury {");
        s.same("modifiers", Modifier.toString(FlyTreasury.class.getModifiers()), "public final");
        s.same("package", FlyTreasury.class.getPackageName(), "");
        s.same("superclass", FlyTreasury.class.getSuperclass(), Object.class);
    }

    private static void theConstructor() {
        ofFace("public FlyTreasury();").same("constructors", constructors(), "[public FlyTreasury()]");
        Sentence.ofPromise(1, "`FlyTreasury()`:").same("constructors", constructors(), "[public FlyTreasury()]");
    }

    private static String constructors() {
        return List.of(FlyTreasury.class.getDeclaredConstructors()).toString();
    }

    private static void theMethods() {
        for (String line : Sentence.linesOf("The public face")) {
            if (line.startsWith("    public ") && !line.contains(" FlyTreasury(")) {
                Sentence s = ofFace(line.trim());
                s.same("the class has it", facesOfClass().contains(FaceTest.faceOfLine(line.trim())), true);
            }
        }
    }

    private static void theMethodOfEachPromise() {
        for (int promise = 2; promise <= 53; promise++) {
            List<String> lines = Sentence.linesOf("Promise " + promise);
            String first = lines.isEmpty() ? "" : lines.get(0);
            String method = first.substring(first.indexOf('`') + 1, Math.max(first.indexOf('`', 1), 1));
            Sentence s = Sentence.ofPromise(promise, "`" + method + "`:");
            s.same("the class has it", facesOfClass().contains(FaceTest.faceOfLine("public " + method)), true);
        }
    }

    private static List<String> facesOfClass() {
        List<String> faces = new ArrayList<>();
        for (Method method : FlyTreasury.class.getDeclaredMethods()) {
            faces.add(FaceTest.faceOf(method));
        }
        return faces;
    }

    private static void theImport() {
        Sentence s = ofFace("```java import java.util.NoSuchElementException;");
        Class<NoSuchElementException> due = NoSuchElementException.class;
        s.fails("daysUntilThaw", due, () -> Treasuries.withVaults(1).daysUntilThaw(0));
        s.fails("vaultByValue", due, () -> new FlyTreasury().vaultByValue(0));
        s.fails("kindByValue", due, () -> new FlyTreasury().kindByValue(3));
        s.fails("errorPosition", due, () -> new FlyTreasury().errorPosition());
        s.fails("failedCommand", due, () -> new FlyTreasury().failedCommand());
    }
}

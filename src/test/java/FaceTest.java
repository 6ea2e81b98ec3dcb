import java.io.IOException;
import java.lang.reflect.Constructor;
import java.lang.reflect.Method;
import java.lang.reflect.Modifier;
import java.nio.file.Files;
import java.nio.file.Path;
import java.util.ArrayList;
import java.util.List;
import java.util.TreeSet;
import java.util.stream.Collectors;
import java.util.stream.Stream;

/** The public face is that of the document, to the letter, and there is no other member that is not private. */
public final class FaceTest {
    public static void main(String[] args) throws IOException {
        Check.same("the face", faceOfDocument(), faceOfClass());
        Check.same("final", true, Modifier.isFinal(ChordCanal.class.getModifiers()));
        List<String> open = new ArrayList<>();
        Stream.of(ChordCanal.class.getDeclaredFields()).filter(f -> !Modifier.isPrivate(f.getModifiers()))
                .forEach(f -> open.add(f.getName()));
        TreeSet<String> publicNames = new TreeSet<>();
        for (Method method : ChordCanal.class.getMethods()) {
            if (method.getDeclaringClass() == ChordCanal.class) {
                publicNames.add(method.getName());
            }
        }
        for (Method method : ChordCanal.class.getDeclaredMethods()) {
            boolean isPublic = Modifier.isPublic(method.getModifiers());
            boolean isPrivate = Modifier.isPrivate(method.getModifiers());
            if (!isPublic && (!isPrivate || publicNames.contains(method.getName()))) {
                open.add(method.getName());
            }
        }
        for (Class<?> inside : ChordCanal.class.getDeclaredClasses()) {
            for (Method method : inside.getDeclaredMethods()) {
                if (publicNames.contains(method.getName())) {
                    open.add(inside.getSimpleName() + "." + method.getName());
                }
            }
        }
        Check.same("other members", List.of(), open);
        Check.done();
    }

    private static TreeSet<String> faceOfDocument() throws IOException {
        String text = Files.readString(Path.of("../shared/DOC.md"));
        String block = text.substring(text.indexOf("public final class ChordCanal {"));
        TreeSet<String> face = new TreeSet<>();
        for (String line : block.substring(0, block.indexOf("}\n")).split("\n")) {
            if (line.startsWith("    public ")) {
                face.add(withoutNames(line.trim().replace(";", "")));
            }
        }
        return face;
    }

    private static String withoutNames(String signature) {
        int open = signature.indexOf('(');
        int close = signature.indexOf(')');
        String parameters = Stream.of(signature.substring(open + 1, close).split(", "))
                .map(parameter -> parameter.split(" ")[0]).collect(Collectors.joining(", "));
        return signature.substring(0, open + 1) + parameters + signature.substring(close);
    }

    private static TreeSet<String> faceOfClass() {
        TreeSet<String> face = new TreeSet<>();
        for (Constructor<?> constructor : ChordCanal.class.getConstructors()) {
            face.add("public ChordCanal(" + names(constructor.getParameterTypes()) + ")");
        }
        for (Method method : ChordCanal.class.getDeclaredMethods()) {
            if (Modifier.isPublic(method.getModifiers())) {
                String thrown = names(method.getExceptionTypes());
                face.add("public " + method.getReturnType().getSimpleName() + " " + method.getName() + "("
                        + names(method.getParameterTypes()) + ")" + (thrown.isEmpty() ? "" : " throws " + thrown));
            }
        }
        return face;
    }

    private static String names(Class<?>[] types) {
        return Stream.of(types).map(Class::getSimpleName).collect(Collectors.joining(", "));
    }
}

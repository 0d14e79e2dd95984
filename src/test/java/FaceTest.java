import java.io.IOException;
import java.lang.reflect.Field;
import java.lang.reflect.Method;
import java.lang.reflect.Modifier;
import java.nio.file.Files;
import java.nio.file.Path;
import java.util.ArrayList;
import java.util.HashSet;
import java.util.List;
import java.util.Set;
import java.util.TreeSet;
import java.util.regex.Matcher;
import java.util.regex.Pattern;

/** The public face as the document lists it, and what LANGUAGE.md says of the members behind it. */
public final class FaceTest {
    public static void main(String[] args) throws IOException {
        members();
        methodsOfTheDocument();
        hiddenMembers();
        classesInside();
        Check.finish();
    }

    private static void members() {
        int modifiers = FraudSieve.class.getModifiers();
        Check.same("public", true, () -> Modifier.isPublic(modifiers));
        Check.same("final", true, () -> Modifier.isFinal(modifiers));
        Check.same("public constructors", 1, () -> FraudSieve.class.getConstructors().length);
        Check.same("constructors", 1, () -> FraudSieve.class.getDeclaredConstructors().length);
    }

    private static void methodsOfTheDocument() throws IOException {
        String document = Files.readString(Path.of("../shared/DOC.md"));
        String face = document.substring(document.indexOf("```java"));
        face = face.substring(0, face.indexOf("\n```"));
        Set<String> due = new TreeSet<>();
        Pattern form = Pattern.compile("public (\\w+) (\\w+)\\((.*)\\)( throws (.*))?;");
        Matcher found = form.matcher(face);
        while (found.find()) {
            List<String> types = new ArrayList<>();
            for (String parameter : found.group(3).split(", ")) {
                types.add(parameter.split(" ")[0]);
            }
            String exceptions = found.group(5) == null ? "" : found.group(5);
            due.add(found.group(1) + " " + found.group(2) + types + exceptions);
        }
        Set<String> got = new TreeSet<>();
        for (Method method : FraudSieve.class.getDeclaredMethods()) {
            if (Modifier.isPublic(method.getModifiers())) {
                got.add(signature(method));
            }
        }
        Check.same("methods in the document", 46, due::size);
        Check.same("public methods", due, () -> got);
    }

    private static String signature(Method method) {
        List<String> types = new ArrayList<>();
        for (Class<?> type : method.getParameterTypes()) {
            types.add(type.getSimpleName());
        }
        if (types.isEmpty()) {
            types.add("");
        }
        List<String> exceptions = new ArrayList<>();
        for (Class<?> exception : method.getExceptionTypes()) {
            exceptions.add(exception.getSimpleName());
        }
        return method.getReturnType().getSimpleName() + " " + method.getName() + types
                + String.join(", ", exceptions);
    }

    static Set<String> publicNames() {
        Set<String> names = new HashSet<>();
        for (Method method : FraudSieve.class.getDeclaredMethods()) {
            if (Modifier.isPublic(method.getModifiers())) {
                names.add(method.getName());
            }
        }
        return names;
    }

    private static void hiddenMembers() {
        Set<String> names = publicNames();
        for (Method method : FraudSieve.class.getDeclaredMethods()) {
            if (!Modifier.isPublic(method.getModifiers())) {
                String name = method.getName();
                Check.same(name + " is private", true,
                        () -> Modifier.isPrivate(method.getModifiers()));
                Check.same(name + " is no public name", false, () -> names.contains(name));
            }
        }
        checkFields(FraudSieve.class);
    }

    private static void classesInside() {
        Class<?>[] classes = FraudSieve.class.getDeclaredClasses();
        Check.same("at most 12 classes", true, () -> classes.length < 12);
        for (Class<?> inside : classes) {
            int modifiers = inside.getModifiers();
            String name = inside.getSimpleName();
            Check.same(name + " is private", true, () -> Modifier.isPrivate(modifiers));
            Check.same(name + " is static", true, () -> Modifier.isStatic(modifiers));
            checkFields(inside);
            for (Method method : inside.getDeclaredMethods()) {
                Check.same(method.getName() + " has few parameters", true,
                        () -> method.getParameterCount() <= 7);
                Check.same(method.getName() + " is no public name", false,
                        () -> publicNames().contains(method.getName()));
            }
        }
    }

    private static void checkFields(Class<?> owner) {
        int fields = 0;
        for (Field field : owner.getDeclaredFields()) {
            int modifiers = field.getModifiers();
            String name = owner.getSimpleName() + "." + field.getName();
            Check.same(name + " is private", true, () -> Modifier.isPrivate(modifiers));
            if (Modifier.isStatic(modifiers)) {
                Check.same(name + " is final", true, () -> Modifier.isFinal(modifiers));
            } else {
                fields++;
            }
        }
        int counted = fields;
        Check.same("at most 20 fields", true, () -> counted <= 20);
    }
}

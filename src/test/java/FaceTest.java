import java.lang.reflect.Constructor;
import java.lang.reflect.Field;
import java.lang.reflect.Method;
import java.lang.reflect.Modifier;
import java.nio.charset.StandardCharsets;
import java.nio.file.Files;
import java.nio.file.Path;
import java.util.ArrayList;
import java.util.HashSet;
import java.util.List;
import java.util.Set;
import java.util.TreeSet;
import java.util.regex.Matcher;
import java.util.regex.Pattern;

/** The class has the face of the document, and nothing else that is seen from outside. */
public final class FaceTest {
    private static final Pattern CONSTANT = Pattern.compile("public static final int (\\w+) = (-?\\d+);");
    private static final Pattern METHOD = Pattern.compile("public (\\w+) (\\w+)\\((.*?)\\)(?: throws (.*))?;");

    public static void main(String[] args) throws Exception {
        String face = faceOfDocument();
        Class<?> type = ColophonDetective.class;
        Check.due("the class is public and final",
                Modifier.isPublic(type.getModifiers()) && Modifier.isFinal(type.getModifiers()), true);
        constants(face, type);
        methods(face, type);
        Constructor<?>[] constructors = type.getDeclaredConstructors();
        Check.due("constructors", constructors.length, 1);
        Check.due("the constructor is public", Modifier.isPublic(constructors[0].getModifiers()), true);
        Check.due("parameters of the constructor", constructors[0].getParameterCount(), 0);
        for (Class<?> inside : type.getDeclaredClasses()) {
            Check.due(inside + " is hidden and static", Modifier.isStatic(inside.getModifiers())
                    && !Modifier.isPublic(inside.getModifiers())
                    && !Modifier.isProtected(inside.getModifiers()), true);
        }
        Check.finish("FaceTest");
    }

    private static String faceOfDocument() throws Exception {
        String document = Files.readString(Path.of("../shared/DOC.md"), StandardCharsets.UTF_8);
        int from = document.indexOf("```java");
        return document.substring(from, document.indexOf("```", from + 3));
    }

    private static void constants(String face, Class<?> type) throws Exception {
        Set<String> named = new HashSet<>();
        Matcher matcher = CONSTANT.matcher(face);
        while (matcher.find()) {
            named.add(matcher.group(1));
            Field field = type.getField(matcher.group(1));
            Check.due(field.toString(), field.getInt(null), Integer.parseInt(matcher.group(2)));
        }
        Check.due("constants of the document", named.size(), 10);
        for (Field field : type.getDeclaredFields()) {
            Check.due(field + " is private, or of the face", Modifier.isPrivate(field.getModifiers()),
                    !named.contains(field.getName()));
        }
    }

    private static void methods(String face, Class<?> type) {
        Set<String> due = new TreeSet<>();
        Set<String> names = new HashSet<>();
        Matcher matcher = METHOD.matcher(face);
        while (matcher.find()) {
            names.add(matcher.group(2));
            List<String> parameters = new ArrayList<>();
            for (String parameter : matcher.group(3).split(", ")) {
                if (!parameter.isEmpty()) {
                    parameters.add(parameter.split(" ")[0]);
                }
            }
            String thrown = matcher.group(4) == null ? "" : matcher.group(4);
            due.add(matcher.group(1) + " " + matcher.group(2) + parameters + " throws [" + thrown + "]");
        }
        Check.due("methods of the document", due.size(), 64);
        Set<String> found = new TreeSet<>();
        for (Method method : type.getDeclaredMethods()) {
            if (Modifier.isPrivate(method.getModifiers())) {
                Check.due(method + " has a name of its own", names.contains(method.getName()), false);
            } else if (!method.isSynthetic()) {
                List<String> parameters = new ArrayList<>();
                for (Class<?> parameter : method.getParameterTypes()) {
                    parameters.add(parameter.getSimpleName());
                }
                List<String> thrown = new ArrayList<>();
                for (Class<?> exception : method.getExceptionTypes()) {
                    thrown.add(exception.getSimpleName());
                }
                found.add(method.getReturnType().getSimpleName() + " " + method.getName() + parameters
                        + " throws " + thrown);
                Check.due(method + " is public", Modifier.isPublic(method.getModifiers()), true);
            }
        }
        Check.due("methods", found.toString(), due.toString());
    }
}

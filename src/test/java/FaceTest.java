import java.lang.reflect.Constructor;
import java.lang.reflect.Field;
import java.lang.reflect.Method;
import java.lang.reflect.Modifier;
import java.nio.file.Files;
import java.nio.file.Path;
import java.util.List;
import java.util.Set;
import java.util.TreeSet;
import java.util.regex.Matcher;
import java.util.regex.Pattern;

/** The public face of the document, and the rules of LANGUAGE.md that can be seen without running. */
public final class FaceTest {
    private static final Due DUE = new Due("FaceTest");

    private static final List<String> FACE = List.of(
        "int file(int)", "int put(int,int)", "int yank(int)", "int mirror(int,int,int)",
        "int speed(int,int)", "int fall(int,int,int)", "boolean lies(int,boolean)", "int pass(int)",
        "int cost(int,int,int)", "int bears(int,int)", "int grace(int)", "int forgives(int)",
        "int ask(int,int)", "int asked(int)", "int got(int,int)", "int asker(int,int)",
        "int names(int,int)", "int state(int,int)", "int about(int,int)", "int has(int,int)", "int count(int)");

    public static void main(String[] args) throws Exception {
        theMethods();
        theRest();
        theNestedClasses();
        theSource();
        DUE.end();
    }

    private static String told(Method method) {
        StringBuilder text = new StringBuilder(method.getReturnType().getName());
        text.append(' ').append(method.getName()).append('(');
        for (Class<?> type : method.getParameterTypes()) {
            text.append(text.charAt(text.length() - 1) == '(' ? "" : ",").append(type.getName());
        }
        return text.append(')').toString();
    }

    private static void theMethods() {
        Set<String> seen = new TreeSet<>();
        Set<String> publicNames = new TreeSet<>();
        for (Method method : MirrorNet.class.getDeclaredMethods()) {
            if (Modifier.isPublic(method.getModifiers())) {
                seen.add(told(method));
                publicNames.add(method.getName());
            }
        }
        DUE.is("the face's methods are as told: " + seen, seen.equals(new TreeSet<>(FACE)), true);
        for (Method method : MirrorNet.class.getDeclaredMethods()) {
            int kind = method.getModifiers();
            DUE.is(method + " is public or private", Modifier.isPublic(kind) || Modifier.isPrivate(kind), true);
            if (Modifier.isPrivate(kind)) {
                DUE.is(method + " has a name of its own", publicNames.contains(method.getName()), false);
            }
        }
    }

    private static void theRest() throws Exception {
        DUE.is("NONE", MirrorNet.NONE, -1);
        DUE.is("MirrorNet is public and final", MirrorNet.class.getModifiers(), Modifier.PUBLIC | Modifier.FINAL);
        Constructor<?>[] makers = MirrorNet.class.getDeclaredConstructors();
        DUE.is("constructors", makers.length, 1);
        DUE.is("its parameters", makers[0].getParameterCount(), 0);
        DUE.is("it is public", Modifier.isPublic(makers[0].getModifiers()), true);
        for (Field field : MirrorNet.class.getDeclaredFields()) {
            int kind = field.getModifiers();
            boolean isNone = field.getName().equals("NONE");
            DUE.is(field + " is as visible as it may be", isNone ? Modifier.isPublic(kind) : Modifier.isPrivate(kind), true);
            DUE.is(field + " is no static state", Modifier.isStatic(kind) && !Modifier.isFinal(kind), false);
        }
    }

    private static void theNestedClasses() {
        Class<?>[] inside = MirrorNet.class.getDeclaredClasses();
        DUE.is("at most twelve classes", inside.length <= 11, true);
        for (Class<?> one : inside) {
            int kind = one.getModifiers();
            DUE.is(one + " is static", Modifier.isStatic(kind), true);
            DUE.is(one + " is not public", Modifier.isPublic(kind) || Modifier.isProtected(kind), false);
            DUE.is(one + " has some twenty fields at most", one.getDeclaredFields().length <= 20, true);
            for (Method method : one.getDeclaredMethods()) {
                DUE.is(method + " takes seven at most", method.getParameterCount() <= 7, true);
            }
        }
    }

    private static void theSource() throws Exception {
        String source = Files.readString(Path.of("src/main/java/MirrorNet.java"));
        String code = source.replaceAll("(?s)/\\*.*?\\*/", " ").replaceAll("//[^\n]*", " ");
        Matcher refused = Pattern.compile(
            "\\b(throw|throws|try|catch|finally|synchronized|assert|package|Object|hashCode|equals|toString)\\b|->|::|Exact\\b")
            .matcher(code);
        while (refused.find()) {
            DUE.is("'" + refused.group() + "' in the source", true, false);
        }
        Matcher imports = Pattern.compile("(?m)^import\\s+(.*);").matcher(code);
        while (imports.find()) {
            DUE.is("import " + imports.group(1), imports.group(1).equals("java.util.Arrays"), true);
        }
    }
}

import java.lang.reflect.Constructor;
import java.lang.reflect.Field;
import java.lang.reflect.Method;
import java.lang.reflect.Modifier;
import java.nio.file.Files;
import java.nio.file.Path;
import java.util.List;
import java.util.Set;
import java.util.TreeSet;
import java.util.regex.Matcher;
import java.util.regex.Pattern;

/** The public face of the document, and the rules of LANGUAGE.md that can be seen without running. */
public final class FaceTest {
    private static final Due DUE = new Due("FaceTest");

    private static final List<String> FACE = List.of(
        "int file(int)", "int put(int,int)", "int yank(int)", "int mirror(int,int,int)",
        "int speed(int,int)", "int fall(int,int,int)", "boolean lies(int,boolean)", "int pass(int)",
        "int cost(int,int,int)", "int bears(int,int)", "int grace(int)", "int forgives(int)",
        "int ask(int,int)", "int asked(int)", "int got(int,int)", "int asker(int,int)",
        "int names(int,int)", "int state(int,int)", "int about(int,int)", "int has(int,int)", "int count(int)");

    /** The library calls that the class makes; one that is not here is looked for in rule 4 first. */
    private static final Set<String> LIBRARY = Set.of(
        "Arrays.fill", "System.arraycopy", "Math.min", "Integer.bitCount", "Long.bitCount");

    public static void main(String[] args) throws Exception {
        theMethods();
        theRest();
        theNestedClasses();
        String code = codeOf(Files.readString(Path.of("src/main/java/MirrorNet.java")));
        theWords(code);
        theLibrary(code);
        theLengths(code);
        DUE.end();
    }

    private static String told(Method method) {
        StringBuilder text = new StringBuilder(method.getReturnType().getName());
        text.append(' ').append(method.getName()).append('(');
        for (Class<?> type : method.getParameterTypes()) {
            text.append(text.charAt(text.length() - 1) == '(' ? "" : ",").append(type.getName());
        }
        return text.append(')').toString();
    }

    private static void theMethods() {
        Set<String> seen = new TreeSet<>();
        Set<String> publicNames = new TreeSet<>();
        for (Method method : MirrorNet.class.getDeclaredMethods()) {
            if (Modifier.isPublic(method.getModifiers())) {
                seen.add(told(method));
                publicNames.add(method.getName());
            }
        }
        DUE.is("the face's methods are as told: " + seen, seen.equals(new TreeSet<>(FACE)), true);
        for (Method method : MirrorNet.class.getDeclaredMethods()) {
            int kind = method.getModifiers();
            DUE.is(method + " is public or private", Modifier.isPublic(kind) || Modifier.isPrivate(kind), true);
            if (Modifier.isPrivate(kind)) {
                DUE.is(method + " has a name of its own", publicNames.contains(method.getName()), false);
            }
        }
    }

    private static void theRest() throws Exception {
        DUE.is("NONE", MirrorNet.NONE, -1);
        DUE.is("MirrorNet is public and final", MirrorNet.class.getModifiers(), Modifier.PUBLIC | Modifier.FINAL);
        Constructor<?>[] makers = MirrorNet.class.getDeclaredConstructors();
        DUE.is("constructors", makers.length, 1);
        DUE.is("its parameters", makers[0].getParameterCount(), 0);
        DUE.is("it is public", Modifier.isPublic(makers[0].getModifiers()), true);
        for (Field field : MirrorNet.class.getDeclaredFields()) {
            int kind = field.getModifiers();
            boolean isNone = field.getName().equals("NONE");
            DUE.is(field + " is as visible as it may be", isNone ? Modifier.isPublic(kind) : Modifier.isPrivate(kind), true);
            DUE.is(field + " is no static state", Modifier.isStatic(kind) && !Modifier.isFinal(kind), false);
        }
    }

    private static void theNestedClasses() {
        Class<?>[] inside = MirrorNet.class.getDeclaredClasses();
        DUE.is("at most twelve classes", inside.length <= 11, true);
        for (Class<?> one : inside) {
            int kind = one.getModifiers();
            DUE.is(one + " is static", Modifier.isStatic(kind), true);
            DUE.is(one + " is not public", Modifier.isPublic(kind) || Modifier.isProtected(kind), false);
            DUE.is(one + " has some twenty fields at most", one.getDeclaredFields().length <= 20, true);
            for (Method method : one.getDeclaredMethods()) {
                DUE.is(method + " takes seven at most", method.getParameterCount() <= 7, true);
                boolean isOfTheFace = FACE.stream().anyMatch(told -> told.contains(" " + method.getName() + "("));
                DUE.is(method + " has a name of its own", isOfTheFace, false);
            }
            for (Field field : one.getDeclaredFields()) {
                int sort = field.getModifiers();
                DUE.is(field + " is no static state", Modifier.isStatic(sort) && !Modifier.isFinal(sort), false);
            }
        }
    }

    private static String codeOf(String source) {
        return source.replaceAll("(?s)/\\*.*?\\*/", " ").replaceAll("//[^\n]*", " ");
    }

    private static void theWords(String code) {
        Matcher refused = Pattern.compile(
            "\\b(throw|throws|try|catch|finally|synchronized|assert|package|protected|native|Object|hashCode|equals|toString)\\b"
            + "|->|::|\"|Exact\\b|\\bwhile *\\( *true *\\)|\\bfor *\\([^;)]*;\\s*;|\\bstatic *\\{")
            .matcher(code);
        while (refused.find()) {
            DUE.is("'" + refused.group() + "' in the source", true, false);
        }
        Matcher shown = Pattern.compile("\\bpublic ").matcher(code);
        int seen = 0;
        while (shown.find()) {
            seen++;
        }
        DUE.is("public ones: the class, NONE, the constructor, the calls", seen, 3 + FACE.size());
    }

    private static void theLibrary(String code) {
        Matcher imports = Pattern.compile("(?m)^import\\s+(.*);").matcher(code);
        while (imports.find()) {
            DUE.is("import " + imports.group(1), imports.group(1).equals("java.util.Arrays"), true);
        }
        Matcher calls = Pattern.compile("\\b[A-Z][a-z]+\\.[a-z]\\w*").matcher(code);
        while (calls.find()) {
            DUE.is(calls.group() + " is a library call that was held against rule 4", LIBRARY.contains(calls.group()), true);
        }
    }

    /** A method ends with the first brace that stands as far in as its own first line. */
    private static void theLengths(String code) {
        Matcher methods = Pattern.compile("(?m)^( +)(?:public|private) [^;={]*\\([^;={]*\\{\n(?s:.*?)\n\\1\\}$").matcher(code);
        int seen = 0;
        while (methods.find()) {
            seen++;
            String text = methods.group().strip();
            DUE.is(text.lines().findFirst().get() + " has some sixty lines at most", text.lines().count() <= 60, true);
        }
        DUE.is("methods are seen", seen > FACE.size(), true);
    }
}

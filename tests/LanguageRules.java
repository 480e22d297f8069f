import java.io.IOException;
import java.lang.reflect.Constructor;
import java.lang.reflect.Field;
import java.lang.reflect.Method;
import java.lang.reflect.Modifier;
import java.nio.file.Files;
import java.nio.file.Path;
import java.util.ArrayList;
import java.util.HashSet;
import java.util.List;
import java.util.Map;
import java.util.Set;
import java.util.regex.Matcher;
import java.util.regex.Pattern;

/** Looks for what ../shared/LANGUAGE.md rules out, as far as words and the class's face show it. */
public final class LanguageRules {
    private static final Path SOURCE = Path.of("src/main/java/OneRankGrid.java");
    private static final List<String> BANNED = List.of(
            "\\bthrow\\b", "\\bthrows\\b", "\\btry\\b", "\\bcatch\\b", "\\bsynchronized\\b", "\\bassert\\b",
            "\\bimport\\b(?! java\\.util\\.(ArrayList|List|Arrays|Iterator);)", "\\bpackage\\b", "->", "::", "Exact\\b", "\\bvar\\b", "\\bObject\\b", "\\bSystem\\.(?!arraycopy)",
            "\\bThread\\b", "\\bRandom\\b", "@", "\\bprotected\\b", "static\\s*\\{");
    private static final List<String> METHODS = List.of(
            "int begin(int,int,int)", "int tell(int,int,int)", "int tellAll()", "int read()", "int entry(int,int,int)",
            "int part(int,int)", "int count(int)", "int cycles(int,int)", "int wrong(int)", "long completions()",
            "int completed(long,int,int)", "int isWellIf(int,int,int)", "long spoilers()", "int bestEntry(int)",
            "int put(long)", "int wipe()", "int fault()", "int undo()", "int save(int)", "int restore(int)");
    private static final Map<String, Integer> CONSTANTS = Map.of(
            "NO_SUCH", -1, "BAD_VALUE", -2, "BAD_TEXT", -3, "TOO_MANY", -4, "NOT_POSSIBLE", -5, "NONE", -6);
    /** Of the library the class uses just these. */
    private static final Set<String> LIBRARY = Set.of("Math.max", "Integer.bitCount");
    /** A method's or a constructor's first line, by its indentation and its name; its last one is a brace as far in. */
    private static final Pattern METHOD = Pattern.compile(
            "(?m)^( {4}| {8})((?:(?:public|private|static) )*)([\\w<>\\[\\]]+ )?(\\w+)\\([^()]*\\) \\{\\n(?s:(.*?))\\n\\1\\}");
    private static final int LONGEST = 60;

    private static int wrong = 0;

    private static void due(String what, boolean holds) {
        if (!holds) {
            wrong++;
            System.out.println(what);
        }
    }

    public static void main(String[] args) throws IOException, IllegalAccessException {
        String text = Files.readString(SOURCE).replaceAll("(?s)/\\*.*?\\*/", "").replaceAll("//[^\n]*", "");
        for (String banned : BANNED) {
            Matcher found = Pattern.compile(banned).matcher(text);
            due("the source holds what is ruled out: " + banned, !found.find());
        }
        library(text);
        methods(text);
        face();
        constants();
        Class<?>[] inside = OneRankGrid.class.getDeclaredClasses();
        due("more than 12 classes", inside.length + 1 <= 12);
        classOf(OneRankGrid.class);
        for (Class<?> one : inside) {
            due(one + " is public or protected", !isOpen(one.getModifiers()));
            due(one + " is not static", Modifier.isStatic(one.getModifiers()));
            classOf(one);
        }
        System.out.println(wrong == 0 ? "the rules are kept, as far as can be seen" : wrong + " rules are broken");
        if (wrong != 0) {
            System.exit(1);
        }
    }

    private static boolean isOpen(int modifiers) {
        return Modifier.isPublic(modifiers) || Modifier.isProtected(modifiers);
    }

    private static String signature(Method method) {
        StringBuilder text = new StringBuilder(method.getReturnType() + " " + method.getName() + "(");
        for (Class<?> type : method.getParameterTypes()) {
            text.append(text.charAt(text.length() - 1) == '(' ? "" : ",").append(type);
        }
        return text.append(")").toString();
    }

    private static void face() {
        Class<?> face = OneRankGrid.class;
        due("the class is not public and final", Modifier.isPublic(face.getModifiers()) && Modifier.isFinal(face.getModifiers()));
        Set<String> methods = new HashSet<>();
        for (Method method : face.getDeclaredMethods()) {
            if (Modifier.isPublic(method.getModifiers())) {
                methods.add(signature(method));
            } else if (!method.isSynthetic()) {
                due(method + " is neither public nor private", Modifier.isPrivate(method.getModifiers()));
            }
        }
        due("the public methods are not those of the document: " + methods, methods.equals(new HashSet<>(METHODS)));
        for (Method method : face.getDeclaredMethods()) {
            boolean isPublic = Modifier.isPublic(method.getModifiers());
            due(method + " is static", !isPublic || !Modifier.isStatic(method.getModifiers()));
            due(method + " says that it throws", method.getExceptionTypes().length == 0);
        }
        Constructor<?>[] constructors = face.getDeclaredConstructors();
        due("there is not just the one constructor", constructors.length == 1 && constructors[0].getParameterCount() == 0
                && Modifier.isPublic(constructors[0].getModifiers()));
    }

    private static void constants() throws IllegalAccessException {
        Set<String> constants = new HashSet<>();
        for (Field field : OneRankGrid.class.getDeclaredFields()) {
            int modifiers = field.getModifiers();
            if (!Modifier.isPublic(modifiers)) {
                due(field + " is neither public nor private", Modifier.isPrivate(modifiers));
                continue;
            }
            constants.add(field.getName());
            boolean isConstant = Modifier.isStatic(modifiers) && Modifier.isFinal(modifiers) && field.getType() == int.class;
            due(field + " is no constant of the type int", isConstant);
            due(field + " has not the document's number",
                    isConstant && CONSTANTS.getOrDefault(field.getName(), 0) == field.getInt(null));
        }
        due("the public constants are not those of the document: " + constants, constants.equals(CONSTANTS.keySet()));
    }

    private static void library(String text) {
        Matcher call = Pattern.compile("\\b[A-Z]\\w*\\.\\w+(?=\\()").matcher(text);
        while (call.find()) {
            due("the source calls " + call.group(), LIBRARY.contains(call.group()));
        }
    }

    /** Methods are short, only private static ones call themselves, and only constructors make objects. */
    private static void methods(String text) {
        Matcher method = METHOD.matcher(text);
        int methods = 0;
        while (method.find()) {
            String modifiers = method.group(2);
            boolean isConstructor = method.group(3) == null;
            String name = method.group(4);
            String body = method.group(5);
            methods += isConstructor ? 0 : 1;
            due(name + " has more than " + LONGEST + " lines", body.lines().count() + 2 <= LONGEST);
            due(name + " calls itself and is not private and static",
                    !Pattern.compile("(?<![.\\w])" + name + "\\(").matcher(body).find() || modifiers.equals("private static "));
            due(name + " makes an object", isConstructor || !Pattern.compile("\\bnew\\b").matcher(body).find());
        }
        due("not all methods were looked at, but " + methods, methods == methodsOfAll());
    }

    private static int methodsOfAll() {
        List<Class<?>> classes = new ArrayList<>(List.of(OneRankGrid.class.getDeclaredClasses()));
        classes.add(OneRankGrid.class);
        int methods = 0;
        for (Class<?> one : classes) {
            for (Method method : one.getDeclaredMethods()) {
                methods += method.isSynthetic() ? 0 : 1;
            }
        }
        return methods;
    }

    private static void classOf(Class<?> one) {
        Set<String> publicNames = new HashSet<>();
        for (String method : METHODS) {
            publicNames.add(method.substring(method.indexOf(' ') + 1, method.indexOf('(')));
        }
        int fields = 0;
        for (Field field : one.getDeclaredFields()) {
            if (Modifier.isStatic(field.getModifiers())) {
                due(field + " is static and not final", Modifier.isFinal(field.getModifiers()));
            } else {
                fields++;
            }
        }
        due(one + " has more than 20 fields", fields <= 20);
        for (Method method : one.getDeclaredMethods()) {
            due(method + " takes more than 7 parameters", method.getParameterCount() <= 7);
            due(method + " bears the name of a public one",
                    Modifier.isPublic(method.getModifiers()) || !publicNames.contains(method.getName()));
        }
    }
}

import java.lang.reflect.Constructor;
import java.lang.reflect.Field;
import java.lang.reflect.Method;
import java.lang.reflect.Modifier;
import java.nio.file.Files;
import java.nio.file.Path;
import java.util.Arrays;
import java.util.HashSet;
import java.util.Set;
import java.util.regex.Matcher;
import java.util.regex.Pattern;

/** What can be seen from outside of LANGUAGE.md: the face, static state, words that are not to be used. */
public final class LanguageTest {
    private static final String[] FACE = {
        "int feed(int,int,int,int,int)", "boolean end(int)", "int house()", "int rule(int)", "int fault(int)",
        "int has(int)", "int letter(int,int,int)", "int person(int,int)", "int foot(int,int)", "int last(int,int)",
        "int who(int,int)", "long keeps(int,int,int,int)", "int after(int,int,int,int,int)",
        "int teaches(int,int,int,int,int)", "int mean(int,int,int,boolean)", "int best(int,int,boolean)",
        "int box(int,int,int)", "int way(int,int,int)", "int send(int,int,int)", "boolean back(int,int)",
        "int days(int)", "int stock(int,int)", "int earned()", "boolean answer(int,int,boolean)",
        "int worth(int,int,int)", "int question(int,int)", "int fee(int)", "int step(int,int,int)", "int print(int)",
        "int alike(int,int)", "int strangers(int,int)", "int hold(int,int)", "int year()", "int draw(int)",
        "int truth(int)", "int trial(int,int,int)", "int image()", "int octet(int)", "boolean on()"};

    private static final String[] NOT_TO_BE_USED = {"throw", "throws", "try", "catch", "synchronized", "assert",
        "package", "volatile", "native", "transient", "double", "float", "Object", "var"};

    public static void main(String[] args) throws Exception {
        face();
        members();
        source(Files.readString(Path.of("src/main/java/ThreeSizes.java")));
        Due.rest("LanguageTest");
    }

    private static String told(Method method) {
        StringBuilder text = new StringBuilder(method.getReturnType() + " " + method.getName() + "(");
        for (Class<?> type : method.getParameterTypes()) {
            text.append(text.charAt(text.length() - 1) == '(' ? "" : ",").append(type);
        }
        return text + ")";
    }

    private static void face() {
        Set<String> due = new HashSet<>(Arrays.asList(FACE));
        Set<String> names = new HashSet<>();
        for (Method method : ThreeSizes.class.getDeclaredMethods()) {
            if (Modifier.isPublic(method.getModifiers())) {
                names.add(method.getName());
                Due.is("public " + told(method), due.remove(told(method)), true);
            }
        }
        Due.is("all of the face is there, but " + due, due.size(), 0);
        for (Class<?> type : allClasses()) {
            for (Method method : type.getDeclaredMethods()) {
                if (!Modifier.isPublic(method.getModifiers())) {
                    Due.is(told(method) + " bears a public name", names.contains(method.getName()), false);
                }
                Due.is(told(method) + " has too many parameters", method.getParameterCount() > 7, false);
                Due.is(told(method) + " is a lambda or a bridge", method.isSynthetic(), false);
            }
        }
        Constructor<?>[] makers = ThreeSizes.class.getDeclaredConstructors();
        Due.is("one constructor", makers.length, 1);
        Due.is("it is public", Modifier.isPublic(makers[0].getModifiers()), true);
        Due.is("it takes nothing", makers[0].getParameterCount(), 0);
        Due.is("the class is final", Modifier.isFinal(ThreeSizes.class.getModifiers()), true);
    }

    private static Set<Class<?>> allClasses() {
        Set<Class<?>> all = new HashSet<>(Arrays.asList(ThreeSizes.class.getDeclaredClasses()));
        all.add(ThreeSizes.class);
        return all;
    }

    private static void members() {
        Due.is("classes: at most some twelve", allClasses().size() <= 12, true);
        for (Class<?> type : allClasses()) {
            boolean face = type == ThreeSizes.class;
            Due.is(type + " is static", face || Modifier.isStatic(type.getModifiers()), true);
            int fields = 0;
            for (Field field : type.getDeclaredFields()) {
                boolean constant = Modifier.isStatic(field.getModifiers());
                fields += constant ? 0 : 1;
                Due.is(field + " is final", !constant || Modifier.isFinal(field.getModifiers()), true);
                boolean told = field.getName().equals("NONE") || field.getName().equals("NOTHING");
                Due.is(field + " is to be seen", !face || Modifier.isPrivate(field.getModifiers()), !(face && told));
            }
            Due.is(type + ": fields, some twenty", fields <= 20, true);
            for (Method method : face ? type.getDeclaredMethods() : new Method[0]) {
                int modifiers = method.getModifiers();
                Due.is(told(method), Modifier.isPublic(modifiers) || Modifier.isPrivate(modifiers), true);
            }
        }
    }

    private static void source(String source) {
        Due.is("signs 10 and 32 .. 126 alone", source.chars().allMatch(c -> c == 10 || c >= 32 && c < 127), true);
        String code = source.replaceAll("(?s)/\\*.*?\\*/", "").replaceAll("//[^\n]*", "")
                .replaceAll("\"[^\"\n]*\"", "TEXT").replaceAll("'[^'\n]*'", "0");
        for (String word : NOT_TO_BE_USED) {
            Due.is("'" + word + "' is used", Pattern.compile("\\b" + word + "\\b").matcher(code).find(), false);
        }
        Due.is("-> is used", code.contains("->"), false);
        Due.is(":: is used", code.contains("::"), false);
        Due.is("texts are joined by +", Pattern.compile("TEXT\\s*\\+|\\+\\s*TEXT").matcher(code).find(), false);
        Due.is("@ is used", code.contains("@"), false);
        Matcher imports = Pattern.compile("import ([^;]*);").matcher(code);
        while (imports.find()) {
            Due.is("import " + imports.group(1), imports.group(1).equals("java.util.Arrays"), true);
        }
        longMethods(code);
    }

    private static void longMethods(String code) {
        int lines = 0;
        for (String line : code.split("\n")) {
            boolean starts = line.matches("( {4}| {8})[a-zA-Z].*\\) \\{");
            lines = starts ? 0 : lines + 1;
            if (line.matches(" {4}\\}| {8}\\}")) {
                Due.is("a method of " + lines + " lines", lines > 60 && lines < 100, false);
                lines = 1000;
            }
        }
    }
}

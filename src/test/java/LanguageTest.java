import java.io.IOException;
import java.lang.reflect.Constructor;
import java.lang.reflect.Field;
import java.lang.reflect.Method;
import java.lang.reflect.Modifier;
import java.nio.file.Files;
import java.nio.file.Path;
import java.util.ArrayList;
import java.util.HashMap;
import java.util.HashSet;
import java.util.List;
import java.util.Map;
import java.util.Set;
import java.util.TreeSet;
import java.util.regex.Matcher;
import java.util.regex.Pattern;

/** The face of the document, the rules of LANGUAGE.md that can be seen by a program, and the room that runs take. */
public final class LanguageTest {
    private static final Path SOURCE = Path.of("src/main/java/BackLenses.java");
    private static final String SHARED = "../shared/DOC.md";
    private static int wrong = 0;

    public static void main(String[] args) throws Exception {
        face();
        words();
        shape();
        room();
        System.out.println(wrong == 0 ? "face, words, shape and room are as due" : wrong + " are not as due");
        if (wrong != 0) {
            System.exit(1);
        }
    }

    private static void complain(String what) {
        wrong++;
        System.out.println(what);
    }

    private static void face() throws IOException {
        Set<String> want = new TreeSet<>();
        Matcher m = Pattern.compile("public (\\w+) (\\w+)\\(([^)]*)\\);").matcher(Files.readString(Path.of(SHARED)));
        while (m.find()) {
            want.add(m.group(1) + " " + m.group(2) + "(" + m.group(3).replaceAll(" \\w+(,|$)", "$1") + ")");
        }
        Set<String> got = new TreeSet<>();
        Set<String> names = new HashSet<>();
        for (Method method : BackLenses.class.getDeclaredMethods()) {
            if (Modifier.isPublic(method.getModifiers())) {
                List<String> types = new ArrayList<>();
                for (Class<?> type : method.getParameterTypes()) {
                    types.add(type.getName());
                }
                got.add(method.getReturnType() + " " + method.getName() + "(" + String.join(", ", types) + ")");
                names.add(method.getName());
            }
        }
        if (want.size() != 43 || !want.equals(got)) {
            complain("the face is " + got + ", due is " + want);
        }
        hidden(BackLenses.class, names);
        for (Class<?> inside : BackLenses.class.getDeclaredClasses()) {
            if (!Modifier.isStatic(inside.getModifiers())) {
                complain(inside + " is not static");
            }
            for (Method method : inside.getDeclaredMethods()) {
                if (names.contains(method.getName())) {
                    complain(method + " bears the name of a public one");
                }
            }
        }
    }

    private static void hidden(Class<?> type, Set<String> names) {
        if (!Modifier.isFinal(type.getModifiers()) || !Modifier.isPublic(type.getModifiers())) {
            complain("the class is not public and final");
        }
        for (Method method : type.getDeclaredMethods()) {
            boolean open = Modifier.isPublic(method.getModifiers());
            if (!open && (!Modifier.isPrivate(method.getModifiers()) || names.contains(method.getName()))) {
                complain(method + " is not hidden, or bears the name of a public one");
            }
        }
        Set<String> constants = Set.of("BAD", "STATE", "FULL", "NONE");
        for (Field field : type.getDeclaredFields()) {
            boolean open = Modifier.isPublic(field.getModifiers());
            if (open != constants.contains(field.getName()) || !open && !Modifier.isPrivate(field.getModifiers())) {
                complain(field + " is not as open as the document has it");
            }
        }
        Constructor<?>[] made = type.getDeclaredConstructors();
        if (made.length != 1 || made[0].getParameterCount() != 0 || !Modifier.isPublic(made[0].getModifiers())) {
            complain("there is not just the one constructor");
        }
    }

    /** The source without comments, texts and signs. */
    private static String bare() throws IOException {
        return Files.readString(SOURCE)
            .replaceAll("(?s)/\\*.*?\\*/", " ")
            .replaceAll("//[^\n]*", " ")
            .replaceAll("\"[^\"\n]*\"", "\"\"")
            .replaceAll("'[^'\n]+'", "' '");
    }

    private static void words() throws IOException {
        String code = bare();
        String[] banned = {
            "throw", "throws", "try", "catch", "synchronized", "assert", "package", "protected", "Object", "Exception",
            "System\\.(?!arraycopy)", "->", "::", "Exact\\b", "hashCode", "toString", "Random", "Thread", "volatile",
            "double", "float", "var", "goto", "yield"
        };
        for (String word : banned) {
            String pattern = Character.isLetter(word.charAt(0)) && !word.contains("\\") ? "\\b" + word + "\\b" : word;
            if (Pattern.compile(pattern).matcher(code).find()) {
                complain("the source has " + word);
            }
        }
        Matcher imports = Pattern.compile("import ([\\w.*]+);").matcher(code);
        while (imports.find()) {
            if (!Set.of("java.util.Arrays", "java.util.List", "java.util.ArrayList").contains(imports.group(1))) {
                complain("the source imports " + imports.group(1));
            }
        }
        if (!code.chars().allMatch(c -> c < 128)) {
            complain("the source has signs above 127");
        }
    }

    private static void shape() throws IOException {
        String[] lines = Files.readString(SOURCE).split("\n");
        Matcher classes = Pattern.compile("\\b(class|record|enum|interface) [A-Z]").matcher(bare());
        int count = 0;
        while (classes.find()) {
            count++;
        }
        if (count > 12) {
            complain("there are " + count + " classes");
        }
        Map<Integer, Integer> opened = new HashMap<>();
        for (int i = 0; i < lines.length; i++) {
            int indent = lines[i].length() - lines[i].stripLeading().length();
            boolean method = lines[i].endsWith(") {") && (indent == 4 || indent == 8)
                && !lines[i].strip().matches("(if|for|while|switch|else|\\}).*");
            if (method) {
                opened.put(indent, i);
            } else if (lines[i].strip().equals("}") && opened.containsKey(indent)) {
                int length = i - opened.remove(indent) + 1;
                if (length > 60) {
                    complain("a method of " + length + " lines ends at line " + (i + 1));
                }
            }
        }
        for (Class<?> type : BackLenses.class.getDeclaredClasses()) {
            fieldsOf(type);
            parametersOf(type);
        }
        fieldsOf(BackLenses.class);
        parametersOf(BackLenses.class);
        if (Pattern.compile("\\bstatic\\s*\\{").matcher(bare()).find()) {
            complain("there is a static initialiser block");
        }
    }

    private static void parametersOf(Class<?> type) {
        for (Method method : type.getDeclaredMethods()) {
            if (method.getParameterCount() > 7) {
                complain(method + " takes more than seven parameters");
            }
        }
    }

    private static void fieldsOf(Class<?> type) {
        int fields = 0;
        for (Field field : type.getDeclaredFields()) {
            boolean constant = Modifier.isStatic(field.getModifiers());
            fields += constant ? 0 : 1;
            if (constant && (!Modifier.isFinal(field.getModifiers()) || !field.getType().isPrimitive())) {
                complain(field + " is static and no constant");
            }
        }
        if (fields > 20) {
            complain(type + " has " + fields + " fields");
        }
    }

    /** Only constructors make rows, so that a run's calls take no room beyond that of its objects. */
    private static void room() throws IOException {
        Matcher made = Pattern.compile("\\bnew (\\w+)").matcher(bare());
        int count = 0;
        while (made.find()) {
            count++;
        }
        Matcher body = Pattern.compile("(?m)^( +)(?:public )?(?:BackLenses|Rows|Book|Views|Sheet|Reader)\\([^)]*\\) \\{$"
            + "(?s:.*?)^\\1\\}$").matcher(bare());
        int inConstructors = 0;
        while (body.find()) {
            Matcher inside = Pattern.compile("\\bnew (\\w+)").matcher(body.group());
            while (inside.find()) {
                inConstructors++;
            }
        }
        if (count == 0 || count != inConstructors) {
            complain(count + " times new, " + inConstructors + " of them in constructors");
        }
    }
}

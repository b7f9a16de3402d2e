import java.lang.reflect.Constructor;
import java.lang.reflect.Field;
import java.lang.reflect.Method;
import java.lang.reflect.Modifier;
import java.nio.file.Files;
import java.nio.file.Path;
import java.util.Set;
import java.util.TreeSet;
import java.util.regex.Matcher;
import java.util.regex.Pattern;

/** The public face of the document, and those rules of LANGUAGE.md that can be seen from outside. */
public final class RulesTest {
    private static final Due due = new Due();
    private static final String FACE = "worth II|worthOf I|who I|person I|of II|set III|turn II|as II|give II|hand III"
        + "|border I|years I|now I|on III|gets II|loses II|burns I|cousin II|kind II|keep III|best II|richest I"
        + "|fewest III|feed II|wipe |family |sheet III|write IIJ|copy IIIII|lays I|book II|read II|image |undo |tear "
        + "|count I|status I";
    private static final String[] FORBIDDEN = {"throw", "throws", "try", "catch", "synchronized", "assert", "finally",
        "->", "::", "protected", "\\w*Exact", "hashCode", "toString", "System\\.out", "Random", "Thread", "volatile",
        "Object", "native", "transient"};
    private static final Set<String> CONSTANTS = Set.of("int", "long", "boolean", "char", "String", "int[]", "long[]",
        "char[]", "byte[]");
    // Less than rule 4 lists; what the class comes to need of the rest is added here.
    private static final Set<String> LIBRARY = Set.of("Math.min", "Math.max", "Math.abs", "Integer.bitCount",
        "System.arraycopy", "Arrays.fill", "Arrays.copyOf", "Arrays.copyOfRange");
    private static final int LONGEST_METHOD = 60;

    public static void main(String[] args) throws Exception {
        face();
        members();
        source(Files.readString(Path.of("src/main/java/PocketBorders.java")));
        due.end();
    }

    private static void face() {
        Class<?> c = PocketBorders.class;
        int publicAndFinal = Modifier.PUBLIC | Modifier.FINAL;
        due.is("public and final", c.getModifiers() & publicAndFinal, publicAndFinal);
        due.same("package", c.getPackageName(), "");
        due.is("public constructors", c.getConstructors().length, 1);
        due.is("its parameters", c.getConstructors()[0].getParameterCount(), 0);
        Set<String> face = new TreeSet<>();
        Set<String> hidden = new TreeSet<>();
        for (Method method : c.getDeclaredMethods()) {
            if (Modifier.isPrivate(method.getModifiers())) {
                hidden.add(method.getName());
                continue;
            }
            due.is("public: " + method, Modifier.isPublic(method.getModifiers()) ? 1 : 0, 1);
            StringBuilder told = new StringBuilder(method.getName()).append(' ');
            for (Class<?> type : method.getParameterTypes()) {
                told.append(type.descriptorString());
            }
            face.add(told.toString());
            boolean isLong = method.getName().equals("write");
            due.same("answer of " + method.getName(), method.getReturnType().getName(), isLong ? "long" : "int");
            due.is("static: " + method, Modifier.isStatic(method.getModifiers()) ? 1 : 0, 0);
        }
        for (Class<?> inside : c.getDeclaredClasses()) {
            for (Method method : inside.getDeclaredMethods()) {
                hidden.add(method.getName());
            }
        }
        due.same("face", face.toString(), new TreeSet<>(Set.of(FACE.split("\\|"))).toString());
        for (String told : face) {
            String name = told.substring(0, told.indexOf(' '));
            due.is("a private method bears the name " + name, hidden.contains(name) ? 1 : 0, 0);
        }
    }

    private static void members() {
        Class<?> c = PocketBorders.class;
        for (Constructor<?> constructor : c.getDeclaredConstructors()) {
            due.is("public: " + constructor, Modifier.isPublic(constructor.getModifiers()) ? 1 : 0, 1);
        }
        for (Field field : c.getDeclaredFields()) {
            due.is("private: " + field, Modifier.isPrivate(field.getModifiers()) ? 1 : 0, 1);
        }
        due.is("at most 12 classes inside", c.getDeclaredClasses().length <= 12 ? 1 : 0, 1);
        shape(c);
        for (Class<?> inside : c.getDeclaredClasses()) {
            due.is("static: " + inside, Modifier.isStatic(inside.getModifiers()) ? 1 : 0, 1);
            due.is("classes inside " + inside, inside.getDeclaredClasses().length, 0);
            shape(inside);
        }
    }

    private static void shape(Class<?> c) {
        int fields = 0;
        for (Field field : c.getDeclaredFields()) {
            if (Modifier.isStatic(field.getModifiers())) {
                due.is("final: " + field, Modifier.isFinal(field.getModifiers()) ? 1 : 0, 1);
                due.is("a constant: " + field, CONSTANTS.contains(field.getType().getSimpleName()) ? 1 : 0, 1);
            } else {
                fields++;
            }
        }
        due.is("at most 20 fields: " + c, fields <= 20 ? 1 : 0, 1);
        for (Method method : c.getDeclaredMethods()) {
            due.is("at most 7 parameters: " + method, method.getParameterCount() <= 7 ? 1 : 0, 1);
        }
    }

    private static void source(String source) {
        String code = source.replaceAll("(?s)/\\*.*?\\*/", " ").replaceAll("//[^\n]*", " ");
        for (String word : FORBIDDEN) {
            String exact = word.matches("[-:].*") ? word : "\\b" + word + "\\b";
            Matcher m = Pattern.compile(exact).matcher(code);
            due.is("'" + word + "' in the source", m.find() ? 1 : 0, 0);
        }
        Matcher imports = Pattern.compile("import ([^;]*);").matcher(code);
        while (imports.find()) {
            due.same("import", imports.group(1), "java.util.Arrays");
        }
        Matcher calls = Pattern.compile("\\b(Math|Integer|Long|System|Arrays|List|String)\\.\\w+").matcher(code);
        while (calls.find()) {
            due.is("of the library: " + calls.group(), LIBRARY.contains(calls.group()) ? 1 : 0, 1);
        }
        due.is("static blocks", Pattern.compile("\\bstatic\\s*\\{").matcher(code).find() ? 1 : 0, 0);
        methodLengths(source);
        due.is("signs above 127", source.chars().filter(sign -> sign > 127).count(), 0);
    }

    /** A method begins with a line that opens its body, and ends with a brace that stands just as far in. */
    private static void methodLengths(String source) {
        Pattern opens = Pattern.compile("( {4}| {8})\\w[^=;]*\\(.*\\) \\{");
        String[] lines = source.split("\n");
        int methods = 0;
        for (int first = 0; first < lines.length; first++) {
            Matcher m = opens.matcher(lines[first]);
            boolean isMethod = m.matches() && !lines[first].matches(" *(if|for|while|switch|do)\\b.*");
            if (!isMethod) {
                continue;
            }
            int last = first;
            while (last < lines.length && !lines[last].equals(m.group(1) + "}")) {
                last++;
            }
            due.is("at most 60 lines: " + lines[first], last - first + 1 <= LONGEST_METHOD ? 1 : 0, 1);
            methods++;
        }
        due.is("methods of the face are among those measured", methods >= FACE.split("\\|").length ? 1 : 0, 1);
    }
}

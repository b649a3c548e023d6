import java.lang.reflect.Constructor;
import java.lang.reflect.Field;
import java.lang.reflect.Method;
import java.lang.reflect.Modifier;
import java.nio.file.Files;
import java.nio.file.Path;
import java.util.ArrayList;
import java.util.List;
import java.util.Set;
import java.util.TreeSet;
import java.util.regex.Matcher;
import java.util.regex.Pattern;

/** The class has the document's face and no more, and keeps to what LANGUAGE.md rules out by a word. */
public final class FaceTest {
    private static final Path PROGRAM = Path.of("src/main/java/ChainKeeper.java");
    private static final Set<String> FACE = new TreeSet<>(List.of(
        "int write(int, int, int)", "int read(int, int, int)", "boolean deliver(int)", "boolean drop(int)",
        "boolean duplicate(int)", "boolean tick(int)", "boolean crash(int)", "boolean detect(int)",
        "boolean join(int)", "int messages()", "int message(int)", "int chain(int)", "int node(int, int)",
        "int clean(int, int)", "int value(int, int)", "int client(int, int)"));
    private static final List<String> RULED_OUT = List.of("throw", "throws", "try", "catch", "finally",
        "synchronized", "assert", "import", "package", "protected", "->", "::", "hashCode", "Object",
        "Random", "System\\.(?!arraycopy)", "Thread", "lang");

    private static final List<String> wrong = new ArrayList<>();

    private static String face(Method m) {
        StringBuilder text = new StringBuilder(m.getReturnType() + " " + m.getName() + "(");
        for (Class<?> type : m.getParameterTypes()) {
            text.append(text.charAt(text.length() - 1) == '(' ? "" : ", ").append(type);
        }
        return text.append(")").toString();
    }

    private static void checkMembers() {
        Class<?> c = ChainKeeper.class;
        if (!Modifier.isPublic(c.getModifiers()) || !Modifier.isFinal(c.getModifiers())) {
            wrong.add("the class is not public and final");
        }
        Set<String> found = new TreeSet<>();
        Set<String> publicNames = new TreeSet<>();
        for (Method m : c.getDeclaredMethods()) {
            if (Modifier.isPublic(m.getModifiers())) {
                found.add(face(m));
                publicNames.add(m.getName());
            } else if (!Modifier.isPrivate(m.getModifiers())) {
                wrong.add("a method that is neither public nor private: " + face(m));
            }
        }
        if (!found.equals(FACE)) {
            wrong.add("the public methods are " + found);
        }
        Constructor<?>[] made = c.getDeclaredConstructors();
        if (made.length != 1 || !made[0].toString().equals("public ChainKeeper(int,int)")) {
            wrong.add("the constructors are not the document's");
        }
        for (Field f : c.getDeclaredFields()) {
            if (!Modifier.isPrivate(f.getModifiers())) {
                wrong.add("a field that is not private: " + f.getName());
            }
        }
        for (Class<?> inner : c.getDeclaredClasses()) {
            checkInner(inner, publicNames);
        }
    }

    private static void checkInner(Class<?> inner, Set<String> publicNames) {
        if (!Modifier.isStatic(inner.getModifiers()) || Modifier.isPublic(inner.getModifiers())) {
            wrong.add("a class inside that is not static, or public: " + inner);
        }
        for (Method m : inner.getDeclaredMethods()) {
            if (publicNames.contains(m.getName())) {
                wrong.add("a method inside bears the name of a public one: " + m);
            }
            if (m.getParameterCount() > 7) {
                wrong.add("more than seven parameters: " + m);
            }
        }
        if (inner.getDeclaredFields().length > 20) {
            wrong.add("more than twenty fields: " + inner);
        }
    }

    private static void checkWords() throws Exception {
        String code = Files.readString(PROGRAM).replaceAll("(?s)/\\*.*?\\*/", "").replaceAll("//[^\n]*", "");
        for (String word : RULED_OUT) {
            boolean isWord = Character.isLetter(word.charAt(0));
            Matcher m = Pattern.compile(isWord ? "\\b" + word + (word.endsWith(")") ? "" : "\\b") : word).matcher(code);
            if (m.find()) {
                wrong.add("ruled out: " + m.group());
            }
        }
    }

    public static void main(String[] args) throws Exception {
        checkMembers();
        checkWords();
        wrong.forEach(System.out::println);
        System.out.println(wrong.isEmpty() ? "the face is as due" : wrong.size() + " faults");
        if (!wrong.isEmpty()) {
            System.exit(1);
        }
    }
}

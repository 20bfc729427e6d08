import java.lang.reflect.Constructor;
import java.lang.reflect.Field;
import java.lang.reflect.Method;
import java.lang.reflect.Modifier;
import java.nio.file.Files;
import java.nio.file.Path;
import java.util.Set;
import java.util.TreeSet;
import java.util.regex.Matcher;
import java.util.regex.Pattern;

/** The class's face, and those rules of LANGUAGE.md that a look at the text can hold. */
public final class LanguageRules {
    private static int wrong = 0;

    public static void main(String[] args) throws Exception {
        face();
        String source = Files.readString(Path.of("src/main/java/CongestionBench.java"));
        words(withoutCommentsAndTexts(source));
        nestedClasses();
        System.out.println(wrong == 0 ? "face and language are as told" : wrong + " things are not as told");
        if (wrong != 0) {
            System.exit(1);
        }
    }

    private static void hold(boolean good, String what) {
        if (!good) {
            wrong++;
            System.out.println(what);
        }
    }

    private static void face() {
        Class<?> c = CongestionBench.class;
        hold(Modifier.isPublic(c.getModifiers()) && Modifier.isFinal(c.getModifiers()), "the class is public and final");
        Set<String> want = new TreeSet<>(Set.of(
            "boolean link(int,int,int,int)", "int flow(int,boolean)", "int send(int,int)", "int window(int,int)",
            "boolean lose(int)", "int run(int)", "int sender(int,int)", "int receiver(int,int)", "int kept(int,int)",
            "int most(int)", "int count(int)"));
        Set<String> names = new TreeSet<>();
        Set<String> got = new TreeSet<>();
        for (Method m : c.getDeclaredMethods()) {
            if (Modifier.isPublic(m.getModifiers())) {
                got.add(signature(m));
                names.add(m.getName());
            } else {
                hold(Modifier.isPrivate(m.getModifiers()), m + " is not private");
            }
        }
        hold(got.equals(want), "the face is " + got);
        for (Class<?> inside : c.getDeclaredClasses()) {
            for (Method m : inside.getDeclaredMethods()) {
                hold(!names.contains(m.getName()), m + " bears the name of a public method");
            }
        }
        for (Constructor<?> k : c.getDeclaredConstructors()) {
            hold(Modifier.isPublic(k.getModifiers()) && k.getParameterCount() == 0, k + " is no constructor of the document");
        }
        for (Field f : c.getDeclaredFields()) {
            boolean constant = f.getName().equals("NONE");
            hold(constant == Modifier.isPublic(f.getModifiers()), f + " is seen from outside");
            hold(constant || Modifier.isPrivate(f.getModifiers()), f + " is not private");
        }
    }

    private static String signature(Method m) {
        StringBuilder text = new StringBuilder(m.getReturnType().getName()).append(' ').append(m.getName()).append('(');
        for (int i = 0; i < m.getParameterCount(); i++) {
            text.append(i == 0 ? "" : ",").append(m.getParameterTypes()[i].getName());
        }
        return text.append(')').toString();
    }

    private static void nestedClasses() {
        Class<?>[] inside = CongestionBench.class.getDeclaredClasses();
        hold(inside.length < 12, "there are " + inside.length + " classes inside");
        for (Class<?> c : inside) {
            hold(Modifier.isStatic(c.getModifiers()), c + " is not static");
            int fields = 0;
            for (Field f : c.getDeclaredFields()) {
                boolean fixed = Modifier.isStatic(f.getModifiers());
                hold(!fixed || Modifier.isFinal(f.getModifiers()), f + " is static and not final");
                fields += fixed ? 0 : 1;
            }
            hold(fields <= 20, c + " has " + fields + " fields");
            for (Method m : c.getDeclaredMethods()) {
                hold(m.getParameterCount() <= 7, m + " takes too much");
            }
        }
    }

    private static void words(String text) {
        String[] refused = {"throw", "throws", "try", "catch", "finally", "synchronized", "assert", "import", "package",
            "var\\s+\\w+\\s*=", "Integer", "Long", "Object", "System", "Thread", "Random", "hashCode", "toString",
            "protected", "->", "::", "static\\s*\\{", "\\w+Exact", "\""};
        for (String word : refused) {
            boolean isWord = Character.isLetter(word.charAt(0));
            Matcher m = Pattern.compile(isWord ? "\\b" + word + (word.endsWith("=") ? "" : "\\b") : word).matcher(text);
            hold(!m.find(), "the class uses " + word);
        }
    }

    private static String withoutCommentsAndTexts(String source) {
        return source.replaceAll("(?s)/\\*.*?\\*/", " ").replaceAll("//[^\n]*", " ");
    }
}

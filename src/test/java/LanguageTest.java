import java.io.IOException;
import java.lang.reflect.Constructor;
import java.lang.reflect.Field;
import java.lang.reflect.Method;
import java.lang.reflect.Modifier;
import java.nio.file.Files;
import java.nio.file.Path;
import java.util.ArrayList;
import java.util.List;
import java.util.Set;
import java.util.TreeSet;
import java.util.regex.Matcher;
import java.util.regex.Pattern;

/** The public face as the document tells it, and what of LANGUAGE.md can be seen from the class and its text. */
public final class LanguageTest {
    private static final Path SOURCE = Path.of("src/main/java/OfferTurn.java");
    private static final Path DOCUMENT = Path.of("../shared/DOC.md");
    private static int wrong = 0;

    public static void main(String[] args) throws IOException {
        face();
        fields();
        nested();
        text();
        methodsAreShort();
        System.out.println(wrong == 0 ? "the face and the language are as told" : wrong + " faults");
        if (wrong != 0) System.exit(1);
    }

    private static void must(boolean holds, String what) {
        if (holds) return;
        wrong++;
        System.out.println(what);
    }

    private static void face() throws IOException {
        Set<String> want = new TreeSet<>();
        Matcher told = Pattern.compile("    public (int|long) (\\w+)\\((.*)\\);").matcher(Files.readString(DOCUMENT));
        while (told.find()) want.add(told.group(1) + " " + told.group(2) + "(" + told.group(3).replaceAll(" \\w+(,|$)", "$1") + ")");
        Set<String> have = new TreeSet<>();
        Set<String> hidden = new TreeSet<>();
        Set<String> names = new TreeSet<>();
        for (Method m : OfferTurn.class.getDeclaredMethods()) {
            List<String> types = new ArrayList<>();
            for (Class<?> type : m.getParameterTypes()) types.add(type.getName());
            if (Modifier.isPublic(m.getModifiers())) {
                have.add(m.getReturnType() + " " + m.getName() + "(" + String.join(", ", types) + ")");
                names.add(m.getName());
            } else {
                must(Modifier.isPrivate(m.getModifiers()), m + " is not private");
                hidden.add(m.getName());
            }
            must(types.size() <= 7, m + " takes too many");
        }
        must(want.size() == 45, "the document tells 45 calls, not " + want.size());
        must(have.equals(want), "the face is " + have + ", due is " + want);
        hidden.retainAll(names);
        must(hidden.isEmpty(), "private, with the name of a public one: " + hidden);
        Constructor<?>[] made = OfferTurn.class.getDeclaredConstructors();
        must(made.length == 1 && Modifier.isPublic(made[0].getModifiers()), "one public constructor");
        must(Modifier.isFinal(OfferTurn.class.getModifiers()), "the class is final");
    }

    private static void fields() {
        Set<String> constants = new TreeSet<>();
        for (Field f : OfferTurn.class.getDeclaredFields()) {
            if (Modifier.isPublic(f.getModifiers())) constants.add(f.getName());
            else must(Modifier.isPrivate(f.getModifiers()), f + " is not private");
        }
        must(constants.equals(Set.of("BAD", "FULL", "FINDING", "STATE", "SPENT", "NONE")), "the constants are " + constants);
        must(OfferTurn.BAD == -1 && OfferTurn.FULL == -2 && OfferTurn.FINDING == -3, "BAD, FULL, FINDING");
        must(OfferTurn.STATE == -4 && OfferTurn.SPENT == -6 && OfferTurn.NONE == -9, "STATE, SPENT, NONE");
    }

    private static void nested() {
        Class<?>[] inside = OfferTurn.class.getDeclaredClasses();
        Set<String> names = new TreeSet<>();
        for (Method m : OfferTurn.class.getDeclaredMethods()) if (Modifier.isPublic(m.getModifiers())) names.add(m.getName());
        must(inside.length < 12, "too many classes");
        for (Class<?> c : inside) {
            must(Modifier.isStatic(c.getModifiers()) && !Modifier.isPublic(c.getModifiers()), c + " is static, not public");
            int own = 0;
            for (Field f : c.getDeclaredFields()) {
                if (Modifier.isStatic(f.getModifiers())) must(Modifier.isFinal(f.getModifiers()), f + " is final");
                else own++;
            }
            must(own <= 20, c + " has too many fields");
            for (Method m : c.getDeclaredMethods()) {
                must(!names.contains(m.getName()), c + " has a method with the name of a public one: " + m.getName());
                must(m.getParameterCount() <= 7, m + " takes too many");
            }
        }
    }

    private static void text() throws IOException {
        String code = withoutComments(Files.readString(SOURCE));
        String[] words = {"throw", "throws", "try", "catch", "finally", "synchronized", "assert", "protected", "package",
            "instanceof", "null", "float", "double", "hashCode", "toString", "volatile", "native", "transient"};
        for (String word : words) must(!Pattern.compile("\\b" + word + "\\b").matcher(code).find(), "the word " + word);
        for (String sign : new String[] {"->", "::", "@", "\"", "%s"}) must(!code.contains(sign), "the sign " + sign);
        Matcher imports = Pattern.compile("import ([\\w.*]+);").matcher(code);
        while (imports.find()) must(imports.group(1).equals("java.util.Arrays"), "import of " + imports.group(1));
        Matcher library = Pattern.compile("\\b(Arrays|System|Integer|Math|Long|String|Object)\\.(\\w+)").matcher(code);
        Set<String> allowed = Set.of("Arrays.fill", "System.arraycopy", "Integer.bitCount", "Math.max", "Math.min");
        while (library.find()) must(allowed.contains(library.group()), "the library's " + library.group());
        for (int i = 0; i < code.length(); i++) must(code.charAt(i) < 128, "a sign above 127");
    }

    private static String withoutComments(String source) {
        return source.replaceAll("(?s)/\\*.*?\\*/", "").replaceAll("//.*", "");
    }

    private static void methodsAreShort() throws IOException {
        List<String> lines = Files.readAllLines(SOURCE);
        Pattern head = Pattern.compile("( +)[\\w\\[\\] ]+\\(.*\\) \\{");
        for (int i = 0; i < lines.size(); i++) {
            Matcher matcher = head.matcher(lines.get(i));
            if (!matcher.matches() || lines.get(i).matches(" +(if|for|while|switch|\\}|else|return).*")) continue;
            int end = i;
            while (end < lines.size() && !lines.get(end).equals(matcher.group(1) + "}")) end++;
            must(end - i <= 40, "long: " + lines.get(i));
        }
    }
}

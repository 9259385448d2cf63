import java.io.IOException;
import java.lang.reflect.Constructor;
import java.lang.reflect.Field;
import java.lang.reflect.Method;
import java.lang.reflect.Modifier;
import java.nio.file.Files;
import java.nio.file.Path;
import java.util.Set;
import java.util.TreeSet;
import java.util.regex.Matcher;
import java.util.regex.Pattern;

// The face of the document, and those rules of LANGUAGE.md that can be seen from outside or from single words.
public final class RuleTests {
    private static final String FACE = """
        public int write(int)
        public int wipe()
        public int fault()
        public int search()
        public int look(int)
        public int lookAboard()
        public int hear(int,int,int)
        public int undo()
        public long weight(int)
        public long likely(int,boolean)
        public int likeliest()
        public long by(int,int,boolean)
        public long best(int,boolean)
        public int bestRow(int)
        public int soon(int)
        public long first(int,boolean)
        public long withSecond(int,boolean)
        public int lanes()
        public int judge(int,int)
        public int said(int)
        public long trust(int,int,int,boolean)
        public long seed(long)
        public int trials(int,int,int)
        public int keep(int)
        public int again(int)
        public int count(int)
        """;
    private static final String[] REFUSED = {
        "throw", "throws", "try", "catch", "finally", "synchronized", "assert", "import", "package", "interface\\s*\\(",
        "hashCode", "equals", "toString", "System\\.\\w*(?<!arraycopy)\\(", "\\w+Exact", "var", "record\\s*\\(",
    };

    private static int wrong = 0;

    private static void must(boolean holds, String rule) {
        if (!holds) {
            wrong++;
            System.out.println("does not hold: " + rule);
        }
    }

    private static String signature(Method method) {
        StringBuilder told = new StringBuilder("public ").append(method.getReturnType().getSimpleName()).append(' ')
                .append(method.getName()).append('(');
        for (Class<?> type : method.getParameterTypes()) {
            told.append(told.charAt(told.length() - 1) == '(' ? "" : ",").append(type.getSimpleName());
        }
        return told.append(')').toString();
    }

    private static void face(Class<?> type) {
        must(Modifier.isPublic(type.getModifiers()) && Modifier.isFinal(type.getModifiers()), "public and final");
        Set<String> due = new TreeSet<>();
        Set<String> names = new TreeSet<>();
        FACE.lines().forEach(line -> due.add(line.strip()));
        for (String line : due) {
            names.add(line.substring(line.lastIndexOf(' ') + 1, line.indexOf('(')));
        }
        Set<String> found = new TreeSet<>();
        for (Method method : type.getDeclaredMethods()) {
            if (Modifier.isPublic(method.getModifiers())) {
                found.add(signature(method));
                must(!Modifier.isStatic(method.getModifiers()), method + " is no static");
            } else {
                must(Modifier.isPrivate(method.getModifiers()), method + " is private");
                must(!names.contains(method.getName()), method + " does not bear a public name");
            }
        }
        must(found.equals(due), "the methods are " + due + ", not " + found);
        for (Constructor<?> made : type.getDeclaredConstructors()) {
            must(Modifier.isPublic(made.getModifiers()) && made.getParameterCount() == 0, "one constructor");
        }
        Set<String> constants = new TreeSet<>();
        for (Field field : type.getDeclaredFields()) {
            if (Modifier.isPublic(field.getModifiers())) {
                constants.add(field.getName());
            } else {
                must(Modifier.isPrivate(field.getModifiers()), field + " is private");
            }
        }
        must(constants.equals(Set.of("UNKNOWN", "OUTSIDE", "STATE", "FULL", "NONE")), "five constants");
    }

    private static void inside(Class<?> type) {
        int own = 0;
        for (Field field : type.getDeclaredFields()) {
            if (Modifier.isStatic(field.getModifiers())) {
                must(Modifier.isFinal(field.getModifiers()), field + " is final");
            } else {
                own++;
            }
        }
        must(own <= 20, type + " has twenty fields at most");
        for (Method method : type.getDeclaredMethods()) {
            must(method.getParameterCount() <= 7, method + " takes seven at most");
            must(!Modifier.isPrivate(method.getModifiers()) || !FACE.contains(" " + method.getName() + "("),
                    method + " does not bear a public name");
        }
        for (Class<?> inner : type.getDeclaredClasses()) {
            must(Modifier.isStatic(inner.getModifiers()), inner + " is static");
            must(!Modifier.isPublic(inner.getModifiers()), inner + " is not public");
            inside(inner);
        }
    }

    private static void words(String source) {
        String code = source.replaceAll("(?s)/\\*.*?\\*/", "").replaceAll("//[^\n]*", "");
        for (String word : REFUSED) {
            Matcher found = Pattern.compile("(?<![\\w.])" + word + "(?!\\w)").matcher(code);
            must(!found.find(), "no " + word);
        }
        must(!code.contains("->") && !code.contains("::"), "no lambda, no method reference");
        must(!Pattern.compile("\\bstatic\\s*\\{").matcher(code).find(), "no static block");
        must(source.chars().allMatch(sign -> sign < 128), "signs below 128");
        must(Pattern.compile("\\b(class|enum|interface)\\s+\\w+").matcher(code).results().count() <= 12, "twelve classes");
        int since = 0;
        int line = 0;
        for (String text : source.split("\n")) {
            line++;
            if (text.matches("( {4}| {8})(public|private|static|int|long|boolean|void|[A-Z]\\w*)\\b.*\\{")) {
                since = line;
            } else if (text.matches("( {4}| {8})\\}") && since > 0) {
                must(line - since <= 60, "short methods, at line " + since);
                since = 0;
            }
        }
    }

    public static void main(String[] args) throws IOException {
        face(GoneOverboard.class);
        inside(GoneOverboard.class);
        words(Files.readString(Path.of("src/main/java/GoneOverboard.java")));
        System.out.println(wrong == 0 ? "the rules hold" : wrong + " rules do not hold");
        if (wrong != 0) {
            System.exit(1);
        }
    }
}

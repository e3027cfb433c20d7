import java.io.IOException;
import java.lang.reflect.Constructor;
import java.lang.reflect.Field;
import java.lang.reflect.Method;
import java.lang.reflect.Modifier;
import java.nio.file.Files;
import java.nio.file.Path;
import java.util.Arrays;
import java.util.Set;
import java.util.TreeSet;
import java.util.regex.Matcher;
import java.util.regex.Pattern;

/** The document's public face, no more and no less, and those rules of the language that can be seen in the text. */
public final class FaceTest {
    static final String[] METHODS = {
        "int piece(long)", "long bytes(int)", "int listener(int)", "int wants(int,int)", "int has(int,int)",
        "int off(int,int)", "int say(int)", "int again(int)", "int call(int,int)", "long sum(int)",
        "int heard(int,int)", "int about(int,int)", "int rowOf(int,int)", "int solve(int,int)",
        "long why(int,int)", "long gets(int,int)", "int lack(int,int)", "int left()", "int needs()",
        "int need(int,int)", "int below()", "int order(int)", "int above()", "int group(int)", "int least()",
        "int planned(int)", "int plan(int,int,int,int)", "int goOn()", "int finish()", "int count(int)"};
    static final String[] BARRED = {
        "throw", "throws", "try", "catch", "synchronized", "assert", "->", "::", "@", "Exact", "System.out",
        "Random", "Thread", "currentTimeMillis", "nanoTime", "hashCode", "toString", "package"};

    static int wrong = 0;

    static void check(boolean holds, String what) {
        if (holds) return;
        wrong++;
        System.out.println("not so: " + what);
    }

    static void face() throws IllegalAccessException {
        Class<?> c = OneCall.class;
        check(Modifier.isPublic(c.getModifiers()) && Modifier.isFinal(c.getModifiers()), "public final class");
        Set<String> seen = new TreeSet<>();
        Set<String> names = new TreeSet<>();
        for (Method m : c.getDeclaredMethods()) {
            if (!Modifier.isPublic(m.getModifiers())) continue;
            String takes = String.join(",", Arrays.stream(m.getParameterTypes()).map(Class::getName).toList());
            seen.add(m.getReturnType().getName() + " " + m.getName() + "(" + takes + ")");
            names.add(m.getName());
            check(!Modifier.isStatic(m.getModifiers()), m.getName() + " is not static");
        }
        check(seen.equals(new TreeSet<>(Arrays.asList(METHODS))), "the methods are those of the document: " + seen);
        checkMembers(c, names);
        String[] constants = {"NONE", "BAD", "KIND", "FULL", "STATE"};
        for (int i = 0; i < constants.length; i++) {
            try {
                check(c.getField(constants[i]).getInt(null) == -1 - i, constants[i] + " is " + (-1 - i));
            } catch (NoSuchFieldException e) {
                check(false, constants[i] + " is there");
            }
        }
        check(c.getFields().length == constants.length, "five constants");
    }

    /** The lists above must be the document's own lines. */
    static void faceOfTheDocument(String doc) {
        Matcher block = Pattern.compile("(?s)## The public face\\s+```java\n(.*?)```").matcher(doc);
        check(block.find(), "the document has a face");
        Set<String> due = new TreeSet<>();
        Matcher methods = Pattern.compile("public (int|long) (\\w+)\\(([^)]*)\\);").matcher(block.group(1));
        while (methods.find()) {
            due.add(methods.group(1) + " " + methods.group(2) + "(" + methods.group(3).replaceAll(" \\w+(, )?", ",").replaceAll(",$", "") + ")");
        }
        check(due.equals(new TreeSet<>(Arrays.asList(METHODS))), "the document's methods are " + due);
        check(block.group(1).contains("public static final int NONE = -1, BAD = -2, KIND = -3, FULL = -4, STATE = -5;"), "the document's constants");
        check(block.group(1).lines().count() == METHODS.length + 4, "the document's face has no other lines");
    }

    static void checkMembers(Class<?> c, Set<String> publicNames) {
        for (Method m : c.getDeclaredMethods()) {
            boolean isPrivate = Modifier.isPrivate(m.getModifiers());
            check(isPrivate || Modifier.isPublic(m.getModifiers()), m.getName() + " is private or public");
            check(!isPrivate || !publicNames.contains(m.getName()), m.getName() + " bears no public name");
            check(m.getParameterCount() <= 7, m.getName() + " takes seven at most");
        }
        for (Field f : c.getDeclaredFields()) {
            check(Modifier.isPrivate(f.getModifiers()) || Modifier.isPublic(f.getModifiers()), f.getName() + " is private or public");
            check(!Modifier.isStatic(f.getModifiers()) || Modifier.isFinal(f.getModifiers()), f.getName() + " is final");
        }
        Constructor<?>[] makers = c.getDeclaredConstructors();
        check(makers.length == 1 && Modifier.isPublic(makers[0].getModifiers()) && makers[0].getParameterCount() == 0, "one constructor");
        for (Class<?> inner : c.getDeclaredClasses()) {
            check(Modifier.isStatic(inner.getModifiers()), inner.getName() + " is static");
            check(inner.getDeclaredFields().length <= 20, inner.getName() + " has twenty fields at most");
            for (Method m : inner.getDeclaredMethods()) {
                check(!publicNames.contains(m.getName()), inner.getName() + "'s " + m.getName() + " bears no public name");
            }
        }
    }

    static void text(Path root) throws IOException {
        String source = Files.readString(root.resolve("src/main/java/OneCall.java"));
        String code = source.replaceAll("(?s)/\\*.*?\\*/", "").replaceAll("//[^\n]*", "");
        for (String word : BARRED) {
            String edge = Character.isLetter(word.charAt(0)) ? "\\b" : "";
            check(!Pattern.compile(edge + Pattern.quote(word) + edge).matcher(code).find(), "no '" + word + "' in the text");
        }
        Matcher imports = Pattern.compile("import ([^;]+);").matcher(code);
        while (imports.find()) {
            check(Set.of("java.util.ArrayList", "java.util.List", "java.util.Arrays").contains(imports.group(1)), "import " + imports.group(1));
        }
        check(source.chars().allMatch(sign -> sign < 128), "plain signs alone");
    }

    /** Methods stay short: some sixty lines. A method's last line is the first with a brace as far in as its own. */
    static void methodsAreShort(String source) {
        String[] lines = source.split("\n");
        Pattern head = Pattern.compile("( {4}| {8})(?=\\w)(?!.*\\bclass\\b).*\\) \\{");
        int methods = 0;
        for (int i = 0; i < lines.length; i++) {
            Matcher m = head.matcher(lines[i]);
            if (!m.matches() || Pattern.compile(" *(if|for|while|switch) .*").matcher(lines[i]).matches()) continue;
            int end = i;
            while (end < lines.length && !lines[end].equals(m.group(1) + "}")) end++;
            check(end - i < 60, "short: " + lines[i].strip());
            methods++;
        }
        check(methods >= METHODS.length, "the methods are seen: " + methods);
    }

    public static void main(String[] args) throws IOException, IllegalAccessException {
        Path root = Path.of(args.length > 0 ? args[0] : ".");
        face();
        text(root);
        methodsAreShort(Files.readString(root.resolve("src/main/java/OneCall.java")));
        check(OneCall.class.getDeclaredClasses().length < 12, "twelve classes at most");
        Path doc = root.resolve("../shared/DOC.md");
        if (Files.exists(doc)) faceOfTheDocument(Files.readString(doc));
        System.out.println(wrong == 0 ? "the face is as due" : wrong + " things are not as due");
        if (wrong != 0) System.exit(1);
    }
}

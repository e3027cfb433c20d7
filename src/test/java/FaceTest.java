import java.io.IOException;
import java.lang.reflect.Constructor;
import java.lang.reflect.Field;
import java.lang.reflect.Method;
import java.lang.reflect.Modifier;
import java.nio.file.Files;
import java.nio.file.Path;
import java.util.Arrays;
import java.util.Set;
import java.util.TreeSet;
import java.util.regex.Matcher;
import java.util.regex.Pattern;

/** The document's public face, no more and no less, and those rules of the language that can be seen in the text. */
public final class FaceTest {
    static final String[] METHODS = {
        "int piece(long)", "long bytes(int)", "int listener(int)", "int wants(int,int)", "int has(int,int)",
        "int off(int,int)", "int say(int)", "int again(int)", "int call(int,int)", "long sum(int)",
        "int heard(int,int)", "int about(int,int)", "int rowOf(int,int)", "int solve(int,int)",
        "long why(int,int)", "long gets(int,int)", "int lack(int,int)", "int left()", "int needs()",
        "int need(int,int)", "int below()", "int order(int)", "int above()", "int group(int)", "int least()",
        "int planned(int)", "int plan(int,int,int,int)", "int goOn()", "int finish()", "int count(int)"};
    static final String[] BARRED = {
        "throw", "throws", "try", "catch", "synchronized", "assert", "->", "::", "@", "Exact", "System.out",
        "Random", "Thread", "currentTimeMillis", "nanoTime", "hashCode", "toString", "package"};

    static int wrong = 0;

    static void check(boolean holds, String what) {
        if (holds) return;
        wrong++;
        System.out.println("not so: " + what);
    }

    static void face() throws IllegalAccessException {
        Class<?> c = OneCall.class;
        check(Modifier.isPublic(c.getModifiers()) && Modifier.isFinal(c.getModifiers()), "public final class");
        Set<String> seen = new TreeSet<>();
        Set<String> names = new TreeSet<>();
        for (Method m : c.getDeclaredMethods()) {
            if (!Modifier.isPublic(m.getModifiers())) continue;
            String takes = String.join(",", Arrays.stream(m.getParameterTypes()).map(Class::getName).toList());
            seen.add(m.getReturnType().getName() + " " + m.getName() + "(" + takes + ")");
            names.add(m.getName());
            check(!Modifier.isStatic(m.getModifiers()), m.getName() + " is not static");
        }
        check(seen.equals(new TreeSet<>(Arrays.asList(METHODS))), "the methods are those of the document: " + seen);
        checkMembers(c, names);
        String[] constants = {"NONE", "BAD", "KIND", "FULL", "STATE"};
        for (int i = 0; i < constants.length; i++) {
            try {
                check(c.getField(constants[i]).getInt(null) == -1 - i, constants[i] + " is " + (-1 - i));
            } catch (NoSuchFieldException e) {
                check(false, constants[i] + " is there");
            }
        }
        check(c.getFields().length == constants.length, "five constants");
    }

    static void checkMembers(Class<?> c, Set<String> publicNames) {
        for (Method m : c.getDeclaredMethods()) {
            boolean isPrivate = Modifier.isPrivate(m.getModifiers());
            check(isPrivate || Modifier.isPublic(m.getModifiers()), m.getName() + " is private or public");
            check(!isPrivate || !publicNames.contains(m.getName()), m.getName() + " bears no public name");
            check(m.getParameterCount() <= 7, m.getName() + " takes seven at most");
        }
        for (Field f : c.getDeclaredFields()) {
            check(Modifier.isPrivate(f.getModifiers()) || Modifier.isPublic(f.getModifiers()), f.getName() + " is private or public");
            check(!Modifier.isStatic(f.getModifiers()) || Modifier.isFinal(f.getModifiers()), f.getName() + " is final");
        }
        Constructor<?>[] makers = c.getDeclaredConstructors();
        check(makers.length == 1 && Modifier.isPublic(makers[0].getModifiers()) && makers[0].getParameterCount() == 0, "one constructor");
        for (Class<?> inner : c.getDeclaredClasses()) {
            check(Modifier.isStatic(inner.getModifiers()), inner.getName() + " is static");
            check(inner.getDeclaredFields().length <= 20, inner.getName() + " has twenty fields at most");
            for (Method m : inner.getDeclaredMethods()) {
                check(!publicNames.contains(m.getName()), inner.getName() + "'s " + m.getName() + " bears no public name");
            }
        }
    }

    static void text(Path root) throws IOException {
        String source = Files.readString(root.resolve("src/main/java/OneCall.java"));
        String code = source.replaceAll("(?s)/\\*.*?\\*/", "").replaceAll("//[^\n]*", "");
        for (String word : BARRED) {
            String edge = Character.isLetter(word.charAt(0)) ? "\\b" : "";
            check(!Pattern.compile(edge + Pattern.quote(word) + edge).matcher(code).find(), "no '" + word + "' in the text");
        }
        Matcher imports = Pattern.compile("import ([^;]+);").matcher(code);
        while (imports.find()) {
            check(Set.of("java.util.ArrayList", "java.util.List", "java.util.Arrays").contains(imports.group(1)), "import " + imports.group(1));
        }
        check(source.chars().allMatch(sign -> sign < 128), "plain signs alone");
    }

    public static void main(String[] args) throws IOException, IllegalAccessException {
        face();
        text(Path.of(args.length > 0 ? args[0] : "."));
        System.out.println(wrong == 0 ? "the face is as due" : wrong + " things are not as due");
        if (wrong != 0) System.exit(1);
    }
}

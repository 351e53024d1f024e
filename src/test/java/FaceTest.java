import java.io.IOException;
import java.lang.reflect.Constructor;
import java.lang.reflect.Field;
import java.lang.reflect.Method;
import java.lang.reflect.Modifier;
import java.nio.file.Files;
import java.nio.file.Path;
import java.util.Arrays;
import java.util.Set;
import java.util.TreeSet;
import java.util.regex.Matcher;
import java.util.regex.Pattern;

/** The face is the document's, with nothing else to be seen, and the source keeps to what LANGUAGE.md rules out by words. */
public final class FaceTest {
    /** LANGUAGE.md says "some sixty lines", "some twelve classes" and "some twenty fields". */
    private static final int MOST_LINES = 64;
    private static final int MOST_CLASSES = 13;
    private static final int MOST_FIELDS = 22;

    private static int wrong = 0;

    private static final String[] FACE = {
        "int clear()", "int addTier(int,int,int)", "int select(int)", "int setSetting(int,int)", "int tier(int,int)",
        "int book(int)", "int append(int)", "int addSpan(int,int,int)", "int removeSpan(int,int)",
        "int moveSpan(int,int,int,int)", "int rename(int,int)", "int split(int,int,int)", "int join(int,int)",
        "int span(int,int,int)", "char letter(int,int,int)", "int spanAt(int,int)", "int refusal(boolean)",
        "int aligned(int,int,int)", "int alignment(int,int,boolean)", "int search()", "int match(int,int)",
        "int merge(int,int)", "int merged(int,int,int)", "int frames(int,int)", "float agreement(int)",
        "double kappa(int)", "boolean isConsistent()", "int read()", "int errorPosition()", "int refusedItem()",
        "int undo()", "int snapshot()", "int restore()"
    };

    private static void check(boolean isRight, String what) {
        if (!isRight) {
            wrong++;
            System.out.println("wrong: " + what);
        }
    }

    private static String told(Method m) {
        StringBuilder s = new StringBuilder(m.getReturnType().getName() + " " + m.getName() + "(");
        for (Class<?> c : m.getParameterTypes()) {
            s.append(s.charAt(s.length() - 1) == '(' ? "" : ",").append(c.getName());
        }
        return s.append(")").toString();
    }

    private static void checkMembers() {
        Set<String> seen = new TreeSet<>();
        Set<String> open = new TreeSet<>();
        Set<String> hidden = new TreeSet<>();
        check(Modifier.isFinal(LessonTiers.class.getModifiers()), "the class is final");
        for (Method m : LessonTiers.class.getDeclaredMethods()) {
            if (Modifier.isPrivate(m.getModifiers())) {
                hidden.add(m.getName());
            } else if (!m.isSynthetic()) {
                seen.add(told(m));
                open.add(m.getName());
                check(Modifier.isPublic(m.getModifiers()) && !Modifier.isStatic(m.getModifiers()), told(m) + " is public");
            }
        }
        check(seen.equals(new TreeSet<>(Arrays.asList(FACE))), "the methods are those of the face: " + seen);
        hidden.retainAll(open);
        check(hidden.isEmpty(), "no private method bears the name of a public one: " + hidden);
        for (Field f : LessonTiers.class.getDeclaredFields()) {
            check(Modifier.isPrivate(f.getModifiers()), f + " is private");
        }
        Constructor<?>[] constructors = LessonTiers.class.getDeclaredConstructors();
        check(constructors.length == 1 && Modifier.isPublic(constructors[0].getModifiers())
            && constructors[0].getParameterCount() == 0, "one public constructor without parameters");
    }

    private static void checkInside() {
        Class<?>[] inside = LessonTiers.class.getDeclaredClasses();
        check(inside.length <= MOST_CLASSES, "at most some twelve classes");
        for (Class<?> c : inside) {
            check(!Modifier.isPublic(c.getModifiers()) && !Modifier.isProtected(c.getModifiers()), c + " is hidden");
            checkFields(c);
        }
        checkFields(LessonTiers.class);
    }

    private static void checkFields(Class<?> c) {
        int fields = 0;
        for (Field f : c.getDeclaredFields()) {
            if (Modifier.isStatic(f.getModifiers())) {
                check(Modifier.isFinal(f.getModifiers()), f + " is final");
            } else {
                fields++;
            }
        }
        check(fields <= MOST_FIELDS, c + " has at most some twenty fields");
        for (Method m : c.getDeclaredMethods()) {
            check(m.getParameterCount() <= 7, m + " takes at most seven parameters");
        }
    }

    private static void checkWords() throws IOException {
        String source = withoutComments(Files.readString(Path.of("src/main/java/LessonTiers.java")));
        String[] ruledOut = {"\\btry *\\(", "\\bfinally\\b", "\\bsynchronized\\b", "\\bassert\\b", "^(?!.*\\b(case|default)\\b).*->",
            "::", "^package", "\\bstatic \\{", "\\bRandom\\b", "System\\.(?!arraycopy)", "Exact\\(",
            "catch *\\((Throwable|Error|Exception|ArrayIndex|NullPointer|ClassCast|NegativeArray|ArrayStore)"};
        for (String word : ruledOut) {
            Matcher m = Pattern.compile(word, Pattern.MULTILINE).matcher(source);
            check(!m.find(), "the source does without " + word);
        }
        Matcher imports = Pattern.compile("^import (.*);", Pattern.MULTILINE).matcher(source);
        while (imports.find()) {
            check(imports.group(1).matches("java\\.util\\.(NoSuchElementException|ArrayList|List|Arrays|Iterator|\\*)"),
                "no import of " + imports.group(1));
        }
        check(source.chars().allMatch(c -> c < 128), "no sign of the source is above 127");
        checkLengths(source);
    }

    /** Words in comments are free, but their lines stay. */
    private static String withoutComments(String source) {
        Matcher m = Pattern.compile("(?s)/\\*.*?\\*/").matcher(source);
        String rest = m.replaceAll(comment -> "\n".repeat((int) comment.group().chars().filter(c -> c == '\n').count()));
        return rest.replaceAll("(?m) *//[^\"\n]*$", "");
    }

    /** A method ends at the first line that closes a brace at the depth at which it was opened. */
    private static void checkLengths(String source) {
        String[] lines = source.split("\n");
        for (int i = 0; i < lines.length; i++) {
            String indent = lines[i].replaceAll("\\S.*", "");
            boolean isHead = (indent.length() == 4 || indent.length() == 8) && lines[i].matches(".*\\).*\\{$")
                && !lines[i].contains(" class ");
            int end = i;
            while (isHead && end < lines.length - 1 && !lines[end].equals(indent + "}")) {
                end++;
            }
            check(end - i <= MOST_LINES, "short: " + lines[i].trim());
        }
    }

    public static void main(String[] args) throws IOException {
        checkMembers();
        checkInside();
        checkWords();
        System.out.println(wrong == 0 ? "the face is as it should be" : wrong + " wrong");
        if (wrong != 0) {
            System.exit(1);
        }
    }
}

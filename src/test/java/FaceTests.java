import java.lang.reflect.Constructor;
import java.lang.reflect.Field;
import java.lang.reflect.Method;
import java.lang.reflect.Modifier;
import java.nio.file.Files;
import java.nio.file.Path;
import java.util.Arrays;
import java.util.Set;
import java.util.TreeSet;
import java.util.regex.Matcher;
import java.util.regex.Pattern;

/** The face is the document's, and the source keeps to the rules of LANGUAGE.md that can be seen from outside. */
public final class FaceTests {
    private static final String SOURCE = "src/main/java/WideDecimalDesk.java";
    private static final String[] FACE = {
        "void set(int,long,int,int,boolean) throws IllegalArgumentException",
        "long low(int)",
        "int high(int)",
        "int scale(int)",
        "boolean negative(int)",
        "void compute(int,int,int,int) throws IllegalArgumentException,ArithmeticException",
        "boolean attempt(int,int,int,int)",
        "void round(int,int,int,int) throws IllegalArgumentException",
        "void trim(int,int) throws IllegalArgumentException",
        "int compare(int,int) throws IllegalArgumentException",
        "boolean type(char)",
        "void clear()",
        "void parse(int) throws IllegalArgumentException,IllegalStateException,ArithmeticException",
        "int show(int) throws IllegalArgumentException",
        "int format(int) throws IllegalArgumentException,IllegalStateException",
        "int at(int)",
        "boolean reuse()",
    };
    private static final String[] RULED_OUT = {
        "\\bimport\\b", "\\bpackage\\b", "->", "::", "\\btry\\b", "\\bcatch\\b", "\\bfinally\\b", "\\bsynchronized\\b", "\\bassert\\b",
        "\\bSystem\\b", "\\bThread\\b", "Exact\\(", "\\bdouble\\b", "\\bfloat\\b", "static \\{", "\\bjava\\.",
    };
    private static int wrong = 0;

    public static void main(String[] args) throws Exception {
        membersOfTheFace();
        namesOfTheFace();
        classesInside();
        wordsOfTheSource();
        System.out.println(wrong == 0 ? "the face and the source keep to the rules" : wrong + " rules are broken");
        if (wrong != 0) System.exit(1);
    }

    private static void membersOfTheFace() {
        Class<?> face = WideDecimalDesk.class;
        check(Modifier.isPublic(face.getModifiers()) && Modifier.isFinal(face.getModifiers()), "the class is public and final");
        Constructor<?>[] constructors = face.getDeclaredConstructors();
        check(constructors.length == 1 && Modifier.isPublic(constructors[0].getModifiers())
            && constructors[0].getParameterCount() == 0, "one public constructor without parameters");
        Set<String> found = new TreeSet<>();
        for (Method method : face.getDeclaredMethods()) {
            if (Modifier.isPublic(method.getModifiers())) {
                found.add(told(method));
            } else {
                check(Modifier.isPrivate(method.getModifiers()), "rule 1: " + method + " is private");
            }
        }
        check(found.equals(new TreeSet<>(Arrays.asList(FACE))), "rule 1: the public methods are the document's, not " + found);
        for (Field field : face.getDeclaredFields()) {
            check(Modifier.isPrivate(field.getModifiers()), "rule 1: " + field + " is private");
        }
    }

    private static String told(Method method) {
        StringBuilder all = new StringBuilder();
        all.append(method.getReturnType()).append(' ').append(method.getName()).append('(');
        all.append(joined(method.getParameterTypes())).append(')');
        if (method.getExceptionTypes().length > 0) all.append(" throws ").append(joined(method.getExceptionTypes()));
        return all.toString();
    }

    private static String joined(Class<?>[] types) {
        StringBuilder all = new StringBuilder();
        for (Class<?> type : types) all.append(all.length() == 0 ? "" : ",").append(type.getSimpleName());
        return all.toString();
    }

    private static void namesOfTheFace() {
        Set<String> names = new TreeSet<>();
        for (Method method : WideDecimalDesk.class.getDeclaredMethods()) {
            if (Modifier.isPublic(method.getModifiers())) names.add(method.getName());
        }
        for (Method method : WideDecimalDesk.class.getDeclaredMethods()) {
            check(Modifier.isPublic(method.getModifiers()) || !names.contains(method.getName()), "rule 1: the name of " + method);
        }
        for (Class<?> inside : WideDecimalDesk.class.getDeclaredClasses()) {
            for (Method method : inside.getDeclaredMethods()) {
                check(!names.contains(method.getName()), "rule 1: the name of " + method);
            }
        }
    }

    private static void classesInside() {
        Class<?>[] inside = WideDecimalDesk.class.getDeclaredClasses();
        check(inside.length + 1 <= 12, "rule 11: at most twelve classes");
        for (Class<?> one : inside) {
            check(Modifier.isStatic(one.getModifiers()) && !Modifier.isPublic(one.getModifiers()), "rule 1: " + one);
            fieldsOf(one);
        }
        fieldsOf(WideDecimalDesk.class);
    }

    private static void fieldsOf(Class<?> one) {
        int own = 0;
        for (Field field : one.getDeclaredFields()) {
            if (Modifier.isStatic(field.getModifiers())) {
                check(Modifier.isFinal(field.getModifiers()), "rule 5: " + field + " is final");
            } else {
                own++;
            }
        }
        check(own <= 20, "rule 11: the fields of " + one);
        for (Method method : one.getDeclaredMethods()) check(method.getParameterCount() <= 7, "rule 11: parameters of " + method);
    }

    private static void wordsOfTheSource() throws Exception {
        String source = Files.readString(Path.of(SOURCE));
        String code = source.replaceAll("(?s)/\\*.*?\\*/", " ").replaceAll("//[^\n]*", " ").replaceAll("\"[^\"\n]*\"", "\"\"");
        for (String word : RULED_OUT) {
            Matcher matcher = Pattern.compile(word).matcher(code);
            check(!matcher.find(), "LANGUAGE.md rules out " + word);
        }
        check(source.chars().allMatch(c -> c < 256), "rule 3: characters 0 to 255 alone");
        Matcher library = Pattern.compile("\\b(Math|Integer|Long|Arrays|Character|String|StringBuilder|List|ArrayList)\\.(\\w+)").matcher(code);
        while (library.find()) {
            check(library.group().equals("Math.max"), "rule 4: " + library.group());
        }
    }

    private static void check(boolean holds, String rule) {
        if (!holds) {
            wrong++;
            System.out.println("broken: " + rule);
        }
    }
}

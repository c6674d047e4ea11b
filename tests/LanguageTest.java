import java.io.IOException;
import java.lang.reflect.Constructor;
import java.lang.reflect.Field;
import java.lang.reflect.Method;
import java.lang.reflect.Modifier;
import java.nio.file.Files;
import java.nio.file.Path;
import java.util.ArrayList;
import java.util.Arrays;
import java.util.List;
import java.util.Set;
import java.util.TreeSet;
import java.util.regex.Matcher;
import java.util.regex.Pattern;

/** The rules of LANGUAGE.md that a look at the text, or at the compiled classes, can tell. */
public final class LanguageTest {
    private static final String FACE = """
            int setDigits(int)
            int digits()
            int type(char)
            int erase()
            char signAt(int)
            boolean put(int,long,int)
            boolean read(int)
            boolean constant(int,char)
            boolean join(int,int,int)
            boolean meet(int,int,int)
            int low(int)
            int high(int)
            int width(int)
            boolean isWithin(int,int)
            int compare(int,int)
            int sure(int)
            int undo()
            boolean add(int,int,int)
            boolean subtract(int,int,int)
            boolean multiply(int,int,int)
            boolean divide(int,int,int)
            boolean power(int,int,int)
            boolean root(int,int,int)
            boolean apply(int,int,char)
            boolean solve(int,int,boolean)
            int define(int)
            boolean hasY(int)
            boolean value(int,int,int,int)
            boolean slope(int,int,int,int)
            int decide(int,int,int)
            int zeros(int,int,int)
            char pieceKind(int)
            boolean piece(int,int)
            boolean narrow(int,int,int)
            int pairs(int,int,int,int,int)
            boolean least(int,int,int,int)
            boolean greatest(int,int,int,int)
            boolean area(int,int,int,int)
            boolean move(int,int,int,int)
            int held()
            long checksum()
            boolean isSound()
            """;
    private static final String[] FORBIDDEN = {
        "\\bcatch\\b", "\\bfinally\\b", "\\btry\\b", "\\bsynchronized\\b", "\\bassert\\b", "->", "::",
        "Exact\\(", "\\bSystem\\.(?!arraycopy)", "\\bThread\\b", "\\bRandom\\b", "\\bBigDecimal\\b",
        "\\bBigInteger\\b", "\\bequals\\(", "\\bhashCode\\b", "\\btoString\\b", "\\bprintln\\b",
        "\\bMath\\.(?!abs\\b|max\\b|min\\b|floorDiv\\b|floorMod\\b)", "\\bvolatile\\b", "\\bnative\\b",
        "\\bstatic \\{", "\\bprotected\\b", "\\+ \"", "\" \\+", "\\bgetClass\\b", "\\byield\\b", "\\bvar\\b",
    };
    private static int wrong;

    private LanguageTest() { }

    private static void check(boolean isFine, String what) {
        if (!isFine) {
            wrong++;
            System.out.println("LanguageTest: " + what);
        }
    }

    private static String withoutComments(String text) {
        return text.replaceAll("(?s)/\\*.*?\\*/", "").replaceAll("//[^\n]*", "");
    }

    private static void checkText(String text) {
        String code = withoutComments(text);
        for (String pattern : FORBIDDEN) {
            Matcher matcher = Pattern.compile(pattern).matcher(code);
            check(!matcher.find(), "the text has " + pattern);
        }
        Matcher imports = Pattern.compile("import ([^;]+);").matcher(code);
        while (imports.find()) {
            check(imports.group(1).equals("java.util.NoSuchElementException"), imports.group());
        }
        check(!code.contains("package "), "the text has a package");
        check(text.chars().allMatch(sign -> sign == '\n' || sign >= 32 && sign < 127),
                "the text has other signs than the plain ones");
        Matcher thrown = Pattern.compile("throw ([^;]*);").matcher(code);
        while (thrown.find()) {
            check(thrown.group(1).matches("new (IllegalState|IllegalArgument|IndexOutOfBounds|"
                    + "Arithmetic|UnsupportedOperation|NoSuchElement)Exception\\(\"[^\"]*\"\\)"),
                    thrown.group());
        }
        checkMethodLengths(code);
    }

    private static void checkMethodLengths(String code) {
        String[] lines = code.split("\n");
        int start = -1;
        String indent = "";
        for (int i = 0; i < lines.length; i++) {
            Matcher head = Pattern.compile("^( {4}| {8})(?! )[^=;]*\\(.*").matcher(lines[i]);
            if (start < 0 && head.matches()) {
                start = i;
                indent = head.group(1);
            } else if (start >= 0 && lines[i].equals(indent + "}")) {
                check(i - start <= 60, "a method is too long: " + lines[start]);
                start = -1;
            }
        }
    }

    private static String signature(Method method) {
        List<String> types = new ArrayList<>();
        for (Class<?> type : method.getParameterTypes()) {
            types.add(type.getSimpleName());
        }
        return method.getReturnType().getSimpleName() + " " + method.getName() + "("
                + String.join(",", types) + ")";
    }

    private static void checkFace() {
        Set<String> due = new TreeSet<>(Arrays.asList(FACE.strip().split("\n")));
        Set<String> got = new TreeSet<>();
        for (Method method : Boxedvalue.class.getDeclaredMethods()) {
            if (Modifier.isPublic(method.getModifiers())) {
                got.add(signature(method));
            } else {
                check(Modifier.isPrivate(method.getModifiers()), method + " is not private");
            }
        }
        check(due.equals(got), "the face is " + got);
        check(Modifier.isFinal(Boxedvalue.class.getModifiers()), "the class is not final");
        Constructor<?>[] constructors = Boxedvalue.class.getDeclaredConstructors();
        check(constructors.length == 1 && constructors[0].getParameterCount() == 0
                && Modifier.isPublic(constructors[0].getModifiers()), "the constructor is another");
        for (Field field : Boxedvalue.class.getDeclaredFields()) {
            check(Modifier.isPrivate(field.getModifiers()), field + " is not private");
        }
    }

    private static void checkClass(Class<?> type, Set<String> names) {
        int fields = 0;
        for (Field field : type.getDeclaredFields()) {
            boolean isStatic = Modifier.isStatic(field.getModifiers());
            check(!isStatic || Modifier.isFinal(field.getModifiers()), field + " is not final");
            fields += isStatic ? 0 : 1;
        }
        check(fields <= 20, type + " has " + fields + " fields");
        for (Method method : type.getDeclaredMethods()) {
            check(method.getParameterCount() <= 7, method + " has too many parameters");
            check(!Modifier.isPrivate(method.getModifiers()) || !names.contains(method.getName()),
                    method + " bears the name of a public one");
        }
    }

    public static void main(String[] args) throws IOException {
        checkText(Files.readString(Path.of(args.length > 0 ? args[0]
                : "src/main/java/Boxedvalue.java")));
        checkFace();
        Set<String> names = new TreeSet<>();
        for (Method method : Boxedvalue.class.getMethods()) {
            names.add(method.getName());
        }
        checkClass(Boxedvalue.class, names);
        Class<?>[] inside = Boxedvalue.class.getDeclaredClasses();
        check(inside.length + 1 <= 12, "there are " + (inside.length + 1) + " classes");
        for (Class<?> type : inside) {
            check(Modifier.isStatic(type.getModifiers()), type + " is not static");
            check(type.getDeclaredClasses().length == 0, type + " has classes inside");
            checkClass(type, names);
        }
        System.out.println("LanguageTest: " + (wrong == 0 ? "no rule is seen to be broken"
                : wrong + " rules are broken"));
        if (wrong != 0) {
            System.exit(1);
        }
    }
}

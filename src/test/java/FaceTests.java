import java.io.IOException;
import java.lang.reflect.Constructor;
import java.lang.reflect.Field;
import java.lang.reflect.Method;
import java.lang.reflect.Modifier;
import java.nio.file.Files;
import java.nio.file.Path;
import java.util.Set;
import java.util.TreeSet;
import java.util.regex.Matcher;
import java.util.regex.Pattern;

/**
 * The class has the document's face and no more, and keeps to those rules of LANGUAGE.md that can be seen from outside
 * or from its words. The arguments are the paths of the document and of the class's source.
 */
public final class FaceTests {
    private static final Pattern SIGNATURE = Pattern.compile(" {4}public (\\w+) (\\w+)\\((.*?)\\)(?: throws (.*))?;");
    // What the rules leave out, and what no file of this project has needed of what they leave.
    private static final String[] FORBIDDEN = {"->", "::", "\\bfinally\\b", "\\bsynchronized\\b", "\\bassert\\b", "\\bcatch\\b",
        "\\btry\\b", "\\bpackage\\b", "\\bstatic \\{", "\\bprotected\\b", "\\bhashCode\\b", "\\btoString\\b", "\\bRandom\\b",
        "\\bThread\\b", "\\bcurrentTimeMillis\\b", "\\bnanoTime\\b", "\\bString\\.format\\b", "Exact\\(", "\" \\+", "\\+ \"",
        "\\bvar\\b", "\\bObject\\b", "\\bHashMap\\b", "java\\.(?!util\\.NoSuchElementException;)"};

    public static void main(String[] args) throws IOException {
        String document = Files.readString(Path.of(args[0]));
        String source = Files.readString(Path.of(args[1]));
        face(document);
        members();
        words(source);
        lengths(source);
        System.out.println("FaceTests: " + Script.passed() + " passed, " + Script.failed() + " failed");
        System.exit(Script.failed() == 0 ? 0 : 1);
    }

    private static void face(String document) {
        Set<String> due = new TreeSet<>();
        int begin = document.indexOf("## The public face");
        Matcher matcher = SIGNATURE.matcher(document.substring(begin, document.indexOf("## Terms")));
        while (matcher.find()) {
            String parameters = matcher.group(3).replaceAll("(\\w+) \\w+", "$1");
            String exceptions = matcher.group(4) == null ? "" : matcher.group(4);
            due.add(matcher.group(1) + " " + matcher.group(2) + "(" + parameters + ") " + exceptions);
        }
        Set<String> has = new TreeSet<>();
        for (Method method : CalibrationRegistry.class.getDeclaredMethods()) {
            if (!Modifier.isPrivate(method.getModifiers())) {
                String name = method.getReturnType().getSimpleName() + " " + method.getName();
                has.add(name + "(" + names(method.getParameterTypes()) + ") " + names(method.getExceptionTypes()));
                Script.count(Modifier.isPublic(method.getModifiers()), "face", name + " is neither public nor private");
            }
        }
        Script.count(due.size() == 38, "face", "38 methods are due in the document, found " + due.size());
        Script.count(has.equals(due), "face", "is " + has + "\n due " + due);
    }

    private static String names(Class<?>[] types) {
        StringBuilder names = new StringBuilder();
        for (Class<?> type : types) {
            names.append(names.length() == 0 ? "" : ", ").append(type.getSimpleName());
        }
        return names.toString();
    }

    private static void members() {
        Class<?> all = CalibrationRegistry.class;
        Script.count(Modifier.isFinal(all.getModifiers()) && Modifier.isPublic(all.getModifiers()), "members", "public final");
        Constructor<?>[] constructors = all.getDeclaredConstructors();
        Script.count(constructors.length == 1 && constructors[0].getParameterCount() == 0
                && Modifier.isPublic(constructors[0].getModifiers()), "members", "one public constructor");
        for (Field field : all.getDeclaredFields()) {
            Script.count(Modifier.isPrivate(field.getModifiers()), "members", field + " is not private");
        }
        Set<String> publicNames = new TreeSet<>();
        for (Method method : all.getMethods()) {
            publicNames.add(method.getName());
        }
        Class<?>[] inside = all.getDeclaredClasses();
        Script.count(inside.length <= 11, "members", "some twelve classes at the most");
        noneNamedAs(publicNames, all);
        for (Class<?> nested : inside) {
            boolean isHidden = !Modifier.isPublic(nested.getModifiers()) && !Modifier.isProtected(nested.getModifiers());
            Script.count(isHidden && Modifier.isStatic(nested.getModifiers()), "members", nested + " hidden and static");
            noneNamedAs(publicNames, nested);
        }
    }

    private static void noneNamedAs(Set<String> publicNames, Class<?> where) {
        int fields = 0;
        for (Method method : where.getDeclaredMethods()) {
            boolean isTaken = !Modifier.isPublic(method.getModifiers()) && publicNames.contains(method.getName());
            Script.count(!isTaken, "members", method + " bears the name of a public method");
        }
        for (Field field : where.getDeclaredFields()) {
            boolean isStatic = Modifier.isStatic(field.getModifiers());
            fields += isStatic ? 0 : 1;
            Script.count(!isStatic || Modifier.isFinal(field.getModifiers()), "members", field + " static and not final");
        }
        Script.count(fields <= 20, "members", where + " has " + fields + " fields");
    }

    private static void words(String source) {
        String code = source.replaceAll("(?s)/\\*.*?\\*/", "").replaceAll("//[^\n]*", "");
        for (String word : FORBIDDEN) {
            Matcher matcher = Pattern.compile(word).matcher(code);
            Script.count(!matcher.find(), "words", word + " stands in the source");
        }
        Script.count(source.chars().allMatch(c -> c == '\n' || c >= 32 && c < 127), "words", "a sign beyond 127 or a tab");
    }

    private static void lengths(String source) {
        String[] lines = source.split("\n");
        int begin = 0;
        String name = "";
        for (int line = 0; line < lines.length; line++) {
            Script.count(lines[line].length() <= 120, "lengths", "line " + (line + 1) + " is long");
            if (lines[line].matches("( {4}| {8})(?!return|else|throw)[\\w<>\\[\\] ]+\\(.*") && !lines[line].endsWith(";")) {
                begin = line;
                name = lines[line].strip();
            }
            if (lines[line].matches(" {4}}| {8}}") && line - begin >= 60 && !name.isEmpty()) {
                Script.count(false, "lengths", name + " has " + (line - begin) + " lines");
            }
            if (lines[line].matches(" {4}}| {8}}")) {
                name = "";
            }
        }
    }
}

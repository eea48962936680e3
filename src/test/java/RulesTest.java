import java.io.IOException;
import java.lang.reflect.Constructor;
import java.lang.reflect.Field;
import java.lang.reflect.Method;
import java.lang.reflect.Modifier;
import java.nio.file.Files;
import java.nio.file.Path;
import java.util.ArrayList;
import java.util.List;
import java.util.Set;
import java.util.TreeSet;
import java.util.regex.Matcher;
import java.util.regex.Pattern;

/** The document's face, and those rules of LANGUAGE.md that the source or reflection shows. */
public final class RulesTest {
    private static final Path SOURCE = Path.of("src/main/java/GreatWave.java");
    private static final String[] FACE = {
        "boolean depth(int,int,int,int,int)", "int shore(int,int)", "int buoy(int,int)", "int travel(int,int,int,int)",
        "int piece()", "boolean row(int,int,int)", "boolean makes(int,int,int,int)", "boolean lifts(int,int,int)",
        "boolean shake(int,int,int,int)", "boolean read(int,int,int,boolean)", "boolean tide(int,int,int)",
        "int tideAt(int,int)", "int weight(int)", "long rest()", "int told(int,int)", "boolean gauge(int,int)",
        "boolean undo()", "int pass(int)", "int siren(int)", "boolean drill(int,boolean)", "int chance(int)",
        "int sirenOf(int,int)", "int feed(int,int,int,int,int)", "int law(int)", "int fault()", "int count(int)"};

    public static void main(String[] args) throws IOException {
        face();
        insides();
        for (Class<?> type : classes()) {
            staticFields(type);
            sizes(type);
        }
        words(withoutTexts(Files.readString(SOURCE)));
        Check.end();
    }

    private static List<Class<?>> classes() {
        List<Class<?>> all = new ArrayList<>();
        all.add(GreatWave.class);
        all.addAll(List.of(GreatWave.class.getDeclaredClasses()));
        return all;
    }

    private static String told(Method method) {
        StringBuilder text = new StringBuilder(method.getReturnType().getName());
        text.append(' ').append(method.getName()).append('(');
        String comma = "";
        for (Class<?> parameter : method.getParameterTypes()) {
            text.append(comma).append(parameter.getName());
            comma = ",";
        }
        return text.append(')').toString();
    }

    private static void face() {
        Check.yes("the class is public and final", GreatWave.class.getModifiers() == (Modifier.PUBLIC | Modifier.FINAL));
        Set<String> want = new TreeSet<>(List.of(FACE));
        Set<String> got = new TreeSet<>();
        for (Method method : GreatWave.class.getDeclaredMethods()) {
            if (Modifier.isPublic(method.getModifiers())) {
                got.add(told(method));
                Check.no(method + " is static", Modifier.isStatic(method.getModifiers()));
            } else {
                Check.yes(method + " is private", Modifier.isPrivate(method.getModifiers()));
            }
        }
        Check.yes("the face is " + got, got.equals(want));
        Constructor<?>[] constructors = GreatWave.class.getDeclaredConstructors();
        Check.due("constructors", constructors.length, 1);
        Check.yes("public constructor", Modifier.isPublic(constructors[0].getModifiers()));
        for (Field field : GreatWave.class.getDeclaredFields()) {
            boolean hidden = Modifier.isPrivate(field.getModifiers());
            Check.yes(field + " is private or NONE", hidden || field.getName().equals("NONE"));
        }
    }

    private static void insides() {
        Set<String> names = new TreeSet<>();
        for (String call : FACE) {
            names.add(call.substring(call.indexOf(' ') + 1, call.indexOf('(')));
        }
        Check.yes("at most twelve classes", classes().size() <= 12);
        for (Class<?> type : GreatWave.class.getDeclaredClasses()) {
            int modifiers = type.getModifiers();
            Check.yes(type + " is static", Modifier.isStatic(modifiers));
            Check.no(type + " is seen outside", Modifier.isPublic(modifiers) || Modifier.isProtected(modifiers));
            Check.due(type + " has classes inside", type.getDeclaredClasses().length, 0);
            for (Method method : type.getDeclaredMethods()) {
                Check.no(method + " bears a public name", names.contains(method.getName()));
            }
        }
    }

    private static void staticFields(Class<?> type) {
        int own = 0;
        for (Field field : type.getDeclaredFields()) {
            if (Modifier.isStatic(field.getModifiers())) {
                Check.yes(field + " is final", Modifier.isFinal(field.getModifiers()));
                Check.yes(field + " is a constant", field.getType() == int.class || field.getType() == int[].class);
            } else {
                own++;
            }
        }
        Check.yes(type + " has at most twenty fields", own <= 20);
    }

    private static void sizes(Class<?> type) {
        for (Method method : type.getDeclaredMethods()) {
            Check.yes(method + " has at most seven parameters", method.getParameterCount() <= 7);
        }
        for (Constructor<?> constructor : type.getDeclaredConstructors()) {
            Check.yes(constructor + " has at most seven parameters", constructor.getParameterCount() <= 7);
        }
    }

    private static String withoutTexts(String source) {
        return source.replaceAll("(?s)/\\*.*?\\*/", " ").replaceAll("//[^\n]*", " ").replaceAll("\"[^\"\n]*\"", "\"\"");
    }

    private static void words(String source) {
        String[] none = {"\\bthrow\\b", "\\bthrows\\b", "\\btry\\b", "\\bcatch\\b", "\\bfinally\\b", "\\bsynchronized\\b",
            "\\bassert\\b", "->", "::", "Exact\\b", "\\bpackage\\b", "\\bvolatile\\b", "\\btransient\\b", "\\bnative\\b",
            "static\\s*\\{", "\\bthread\\b", "\\bdouble\\b", "\\bfloat\\b", "\\bObject\\b", "\\bvar\\b", "\\bprotected\\b",
            "System\\.(?!arraycopy)", "Arrays\\.(?!fill|copyOf|copyOfRange)", "Math\\.(?!max|min)", "\\bhashCode\\b",
            "\\btoString\\b", "\\bgetClass\\b", "\\bequals\\b", "new\\s+\\w+\\s*\\([^)]*\\)\\s*\\{"};
        for (String word : none) {
            Check.no("the source has " + word, Pattern.compile(word).matcher(source).find());
        }
        Matcher imports = Pattern.compile("import\\s+([\\w.]+)").matcher(source);
        while (imports.find()) {
            Check.yes("import " + imports.group(1), imports.group(1).equals("java.util.Arrays"));
        }
        int begun = -1;
        String[] lines = source.split("\n", -1);
        Pattern method = Pattern.compile("^( {4}| {8})(?!private static final class)\\w[\\w\\[\\] ]*\\([^;]*\\{$");
        for (int i = 0; i < lines.length; i++) {
            if (method.matcher(lines[i]).find()) {
                begun = i;
            }
            if (begun >= 0 && lines[i].matches(" {4}\\}| {8}\\}")) {
                Check.yes("line " + (begun + 1) + ": at most sixty lines", i - begun < 60);
                begun = -1;
            }
        }
    }
}

import java.lang.reflect.Constructor;
import java.lang.reflect.Field;
import java.lang.reflect.Method;
import java.lang.reflect.Modifier;
import java.nio.file.Files;
import java.nio.file.Path;
import java.util.Set;
import java.util.TreeSet;
import java.util.regex.Matcher;
import java.util.regex.Pattern;

/** The public face, to the letter, and those rules of LANGUAGE.md that can be seen from outside. */
public final class FaceTest {
    private static final Check C = new Check();

    private static final String[] FACE = {
        "int order(int,int)", "int due(int,int)", "int of(int,int)", "int drop()",
        "int machine(int,int)", "int patterns(int)", "int rows()", "int row(int,int)",
        "long amount(int,int)", "long share(int,int,int)", "long price(int,int)",
        "long bound(int)", "int least()", "int rounds()", "int came(int,int)", "int leeway(int)",
        "int rolls(int)", "int cut(int,int)", "int waste(int)", "int wasting(int)", "int peak()",
        "int sequence(int)", "int open(int)", "int carry()", "int serve()", "int store(int)",
        "int put(int)", "int feed(int)", "int clear()", "int book()", "int pick()", "int first()",
        "int judge()", "int spell()", "int paper(int)", "int told(int)", "int image()", "int undo()",
    };

    private static final String[] NOT_TO_STAND = {
        "\\bthrow\\b", "\\bthrows\\b", "\\btry\\b", "\\bcatch\\b", "\\bsynchronized\\b", "\\bassert\\b",
        "::", "\\bpackage\\b", "\\bMath\\.random\\b", "Exact\\(", "\\bSystem\\.(?!arraycopy\\b)",
        "\\bThread\\b", "\\bboolean equals\\(", "\\bhashCode\\(", "\\bString toString\\(", "\\bprotected\\b",
        "\\bvolatile\\b", "\\btransient\\b", "\\bnative\\b", "\\bsun\\.", "\\bjava\\.(?!util\\.)", "\\bvar\\b",
        // a lambda; an arrow behind a case is none
        "\\) ?->", "(?m)^(?!.*\\b(case|default)\\b).*->",
    };

    public static void main(String[] args) throws Exception {
        C.part("the face");
        face();
        C.part("classes inside");
        inside(RollCutter.class.getDeclaredClasses(), publicNames());
        C.part("the source");
        source(Files.readString(Path.of("src/main/java/RollCutter.java")));
        C.end();
    }

    private static Set<String> publicNames() {
        Set<String> names = new TreeSet<>();
        for (String m : FACE) {
            names.add(m.substring(m.indexOf(' ') + 1, m.indexOf('(')));
        }
        return names;
    }

    private static String told(Method m) {
        StringBuilder b = new StringBuilder(m.getReturnType().getName()).append(' ').append(m.getName()).append('(');
        for (Class<?> p : m.getParameterTypes()) {
            b.append(b.charAt(b.length() - 1) == '(' ? "" : ",").append(p.getName());
        }
        return b.append(')').toString();
    }

    private static void face() {
        Class<?> c = RollCutter.class;
        holds("public and final", Modifier.isPublic(c.getModifiers()) && Modifier.isFinal(c.getModifiers()));
        Set<String> due = new TreeSet<>(Set.of(FACE));
        Set<String> got = new TreeSet<>();
        for (Method m : c.getDeclaredMethods()) {
            if (Modifier.isPublic(m.getModifiers())) {
                got.add(told(m));
            } else {
                holds(told(m) + " is private", Modifier.isPrivate(m.getModifiers()));
                holds(m.getName() + " is no public name", !publicNames().contains(m.getName()));
            }
        }
        holds("methods " + got, got.equals(due));
        Constructor<?>[] made = c.getDeclaredConstructors();
        holds("one constructor", made.length == 1 && made[0].getParameterCount() == 0);
        Set<String> constants = new TreeSet<>();
        for (Field f : c.getDeclaredFields()) {
            if (Modifier.isPublic(f.getModifiers())) {
                constants.add(f.getName());
                holds(f + " is a constant", Modifier.isStatic(f.getModifiers()) && Modifier.isFinal(f.getModifiers()));
            } else {
                holds(f + " is private", Modifier.isPrivate(f.getModifiers()));
            }
        }
        holds("constants " + constants, constants.equals(Set.of("NONE", "BAD", "STATE", "FULL")));
        fields(c);
    }

    private static void inside(Class<?>[] classes, Set<String> names) {
        holds("some twelve classes", classes.length < 15);
        for (Class<?> c : classes) {
            holds(c + " is static", Modifier.isStatic(c.getModifiers()));
            holds(c + " is not public", !Modifier.isPublic(c.getModifiers()));
            holds(c + " has none inside", c.getDeclaredClasses().length == 0);
            fields(c);
            for (Method m : c.getDeclaredMethods()) {
                holds(c + "'s " + m.getName() + " is no public name", !names.contains(m.getName()));
                holds(m + " has seven parameters at most", m.getParameterCount() <= 7);
            }
        }
    }

    private static void fields(Class<?> c) {
        int own = 0;
        for (Field f : c.getDeclaredFields()) {
            if (Modifier.isStatic(f.getModifiers())) {
                holds(f + " is final", Modifier.isFinal(f.getModifiers()));
                holds(f + " is a plain constant", f.getType().isPrimitive() || f.getType() == String.class);
            } else {
                own++;
            }
        }
        holds(c + " has some twenty fields", own <= 24);
    }

    private static void source(String text) {
        String code = text.replaceAll("(?s)/\\*.*?\\*/", "").replaceAll("//[^\n]*", "")
                .replaceAll("'(\\\\.|[^'])'", "' '").replaceAll("\"[^\"\n]*\"", "\"\"");
        for (String word : NOT_TO_STAND) {
            Matcher m = Pattern.compile(word).matcher(code);
            holds("no " + word, !m.find());
        }
        Matcher imports = Pattern.compile("\\bimport\\s+([^;]+);").matcher(code);
        while (imports.find()) {
            holds("import " + imports.group(1), Set.of("java.util.Arrays", "java.util.ArrayList",
                    "java.util.List", "java.util.Iterator").contains(imports.group(1)));
        }
        methodsAreShort(code.split("\n"));
        Matcher texts = Pattern.compile("\"[^\"\n]*\"|'[^'\n]*'").matcher(text);
        while (texts.find()) {
            holds("signs 1 to 127 in " + texts.group(), texts.group().chars().allMatch(c -> c > 0 && c < 128));
        }
    }

    private static void methodsAreShort(String[] lines) {
        int methods = 0;
        for (int start = 0; start < lines.length; start++) {
            Matcher head = Pattern.compile("( {4}| {8})(?!if |for |while |switch |return )\\S.*\\) \\{").matcher(lines[start]);
            if (head.matches()) {
                int end = start;
                while (end < lines.length && !lines[end].equals(head.group(1) + "}")) {
                    end++;
                }
                methods++;
                holds("the method at line " + (start + 1) + " of the bare code is short", end - start < 66);
            }
        }
        holds("methods were found", methods >= FACE.length);
    }

    private static void holds(String what, boolean so) {
        C.due(what, so ? 1 : 0, 1);
    }
}

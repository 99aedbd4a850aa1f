import java.lang.reflect.Constructor;
import java.lang.reflect.Field;
import java.lang.reflect.Method;
import java.lang.reflect.Modifier;
import java.nio.file.Files;
import java.nio.file.Path;
import java.util.ArrayList;
import java.util.Arrays;
import java.util.List;
import java.util.Set;
import java.util.TreeSet;
import java.util.regex.Matcher;
import java.util.regex.Pattern;

/** The face of the document, and those rules of LANGUAGE.md that a reader of the source can count. */
public final class LanguageTest {
    private static final Check CHECK = new Check("LanguageTest");
    private static final String[] FACE = {
        "int feed(int,int,int,int,int)", "int end(int)", "int board()", "int orders()", "int fault(int)", "int refused()",
        "int start(int)", "int stop(int)", "int claim(int)", "int raise(int,int,boolean)", "int tick(int)",
        "int move(int,int,int)", "int unplug(int)", "int plug(int)", "boolean undo()", "boolean redo()", "int cpu(int,int)",
        "int vector(int,int,int)", "int device(int,int)", "int line(int,int,int)", "int spread(int,int)", "int room(int)",
        "int balance()", "int clear(int,int)", "int without(int,int)", "int storm(int,int,int)", "int quiet()",
        "int nearest()", "int log(int,int)", "int alike(int,int)", "int law()", "int image(int)", "int back(int)",
        "int about(int)"};

    public static void main(String[] args) throws Exception {
        face();
        classesInside();
        source(Files.readString(Path.of("src/main/java/VectorDeal.java")));
        CHECK.finish();
    }

    private static void good(String what, boolean holds) {
        CHECK.due(what, holds, true);
    }

    private static void face() {
        Class<?> c = VectorDeal.class;
        good("final", Modifier.isFinal(c.getModifiers()) && Modifier.isPublic(c.getModifiers()));
        Set<String> found = new TreeSet<>();
        for (Method m : c.getDeclaredMethods()) {
            StringBuilder text = new StringBuilder(m.getReturnType() + " " + m.getName() + "(");
            for (Class<?> p : m.getParameterTypes()) {
                text.append(text.charAt(text.length() - 1) == '(' ? "" : ",").append(p);
            }
            if (Modifier.isPublic(m.getModifiers())) {
                found.add(text + ")");
            } else {
                good("private method " + m, Modifier.isPrivate(m.getModifiers()));
            }
        }
        Set<String> wanted = new TreeSet<>(Arrays.asList(FACE));
        good("face " + found, found.equals(wanted));
        for (Field f : c.getDeclaredFields()) {
            good("field " + f, Modifier.isPrivate(f.getModifiers()) || f.getName().equals("NONE"));
        }
        Constructor<?>[] made = c.getDeclaredConstructors();
        good("one constructor", made.length == 1 && Modifier.isPublic(made[0].getModifiers()) && made[0].getParameterCount() == 0);
    }

    private static void classesInside() {
        Class<?>[] inside = VectorDeal.class.getDeclaredClasses();
        good("some twelve classes", inside.length <= 12);
        List<Class<?>> all = new ArrayList<>(Arrays.asList(inside));
        all.add(VectorDeal.class);
        Set<String> names = new TreeSet<>();
        for (Method m : VectorDeal.class.getDeclaredMethods()) {
            if (Modifier.isPublic(m.getModifiers())) {
                names.add(m.getName());
            }
        }
        for (Class<?> c : all) {
            good("static " + c, c == VectorDeal.class || Modifier.isStatic(c.getModifiers()));
            int fields = 0;
            for (Field f : c.getDeclaredFields()) {
                boolean isStatic = Modifier.isStatic(f.getModifiers());
                fields += isStatic ? 0 : 1;
                good("static fields are final: " + f, !isStatic || Modifier.isFinal(f.getModifiers()));
            }
            good("some twenty fields: " + c, fields <= 20);
            for (Method m : c.getDeclaredMethods()) {
                good("seven parameters: " + m, m.getParameterCount() <= 7);
                boolean ownName = !names.contains(m.getName()) || c == VectorDeal.class && Modifier.isPublic(m.getModifiers());
                good("no name of the face: " + m, ownName);
            }
        }
    }

    private static void source(String text) {
        String code = text.replaceAll("(?s)/\\*.*?\\*/", " ").replaceAll("//[^\n]*", " ").replaceAll("\"[^\"]*\"", "\"\"");
        for (String word : new String[] {"throw", "throws", "try", "catch", "synchronized", "assert", "package", "instanceof",
            "protected", "native", "volatile", "Thread", "Random", "toString", "hashCode", "Exact"}) {
            good("no " + word, !Pattern.compile("\\b" + word + "\\b").matcher(code).find());
        }
        good("no lambda", !code.contains("->") && !code.contains("::"));
        good("no static block", !Pattern.compile("static\\s*\\{").matcher(code).find());
        Matcher imports = Pattern.compile("import\\s+([\\w.]+)").matcher(code);
        while (imports.find()) {
            good("import " + imports.group(1), imports.group(1).equals("java.util.Arrays"));
        }
        Matcher calls = Pattern.compile("\\b(System|Arrays|Integer|Long|Math)\\.(\\w+)").matcher(code);
        while (calls.find()) {
            String call = calls.group(1) + "." + calls.group(2);
            good(call, "System.arraycopy Arrays.fill Integer.bitCount Math.min Math.max Math.floorMod".contains(call));
        }
        for (char sign : text.toCharArray()) {
            if (sign > 126) {
                good("sign " + (int) sign, false);
            }
        }
        Matcher truths = Pattern.compile("boolean\\[\\] (\\w+)").matcher(code);
        while (truths.find()) {
            Pattern copied = Pattern.compile("(arraycopy|fill)\\([^;]*\\b" + truths.group(1) + "\\b");
            good("only rows of numbers are copied: " + truths.group(1), !copied.matcher(code).find());
        }
        methodsAreShort(code);
        objectsAreMadeByConstructors(code);
    }

    private static void methodsAreShort(String code) {
        Matcher heads = Pattern.compile("\n( +)(?:[\\w\\[\\]]+ )*\\w+\\([^;{}]*\\) \\{\n").matcher(code);
        while (heads.find()) {
            int end = code.indexOf("\n" + heads.group(1) + "}", heads.end() - 1);
            long lines = code.substring(heads.start() + 1, end).lines().count() + 1;
            good("some sixty lines: " + heads.group().trim() + " " + lines, lines <= 60);
        }
    }

    /** Every "new" stands at a field or in a constructor: no call makes an object. */
    private static void objectsAreMadeByConstructors(String code) {
        Matcher heads = Pattern.compile("\n( +)(?:private |public |static )*(\\w+(?:\\[\\])*) \\w+\\([^;{}]*\\) \\{\n").matcher(code);
        while (heads.find()) {
            String type = heads.group(2);
            if (!type.equals("public") && !type.equals("private") && !type.equals("new") && !type.equals("return")) {
                int end = code.indexOf("\n" + heads.group(1) + "}", heads.end() - 1);
                good("makes no object: " + heads.group().trim(), !code.substring(heads.end(), end).contains("new "));
            }
        }
    }
}

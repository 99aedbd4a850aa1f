import java.lang.reflect.Method;
import java.lang.reflect.Modifier;
import java.nio.file.Files;
import java.nio.file.Path;
import java.util.regex.Matcher;
import java.util.regex.Pattern;

/** The calls of README.md answer what is written behind them, and each call of the face is told there. */
public final class ReadmeTest {
    private static final Check CHECK = new Check("ReadmeTest");
    private static final Pattern CALL = Pattern.compile("deal\\.(\\w+)\\(([^)]*)\\);\\s+// (-?\\w+).*");
    private static final Pattern TEXT = Pattern.compile("tell\\(deal, \"(.*)\"\\);");

    public static void main(String[] args) throws Exception {
        String page = Files.readString(Path.of("README.md"));
        String own = Files.readString(Path.of("src/test/java/ReadmeTest.java"));
        Matcher blocks = Pattern.compile("(?s)```java\n(.*?)```").matcher(page);
        VectorDeal deal = null;
        while (blocks.find()) {
            if (blocks.group(1).startsWith("static")) {
                CHECK.due("the code that feeds a text", words(own).contains(words(blocks.group(1))), true);
            } else {
                for (String row : blocks.group(1).split("\n")) {
                    deal = row.equals("VectorDeal deal = new VectorDeal();") ? new VectorDeal() : done(deal, row);
                }
            }
        }
        for (Method method : VectorDeal.class.getDeclaredMethods()) {
            if (Modifier.isPublic(method.getModifiers())) {
                CHECK.due(method.getName() + " is told", page.contains("`" + method.getName() + "`"), true);
            }
        }
        CHECK.finish();
    }

    /** A text without its indentation, which differs on the page. */
    private static String words(String text) {
        return text.replaceAll("\\s+", " ");
    }

    private static VectorDeal done(VectorDeal deal, String row) throws Exception {
        Matcher text = TEXT.matcher(row);
        Matcher call = CALL.matcher(row);
        if (text.matches()) {
            tell(deal, text.group(1));
        } else if (call.matches()) {
            CHECK.due(row, answered(deal, call.group(1), call.group(2)), number(call.group(3)));
        } else {
            CHECK.due("a row that can't be read: " + row, false, true);
        }
        return deal;
    }

    private static long answered(VectorDeal deal, String name, String given) throws Exception {
        String[] words = given.isEmpty() ? new String[0] : given.split(", ");
        for (Method method : VectorDeal.class.getDeclaredMethods()) {
            if (method.getName().equals(name)) {
                Object[] arguments = new Object[words.length];
                for (int i = 0; i < words.length; i++) {
                    boolean asked = method.getParameterTypes()[i] == boolean.class;
                    arguments[i] = asked ? (Object) words[i].equals("true") : (Object) Integer.valueOf(words[i]);
                }
                return number(String.valueOf(method.invoke(deal, arguments)));
            }
        }
        throw new IllegalStateException("no call " + name);
    }

    private static long number(String word) {
        return word.equals("true") ? 1 : word.equals("false") ? 0 : Long.parseLong(word);
    }

    static void tell(VectorDeal deal, String text) {
        for (int at = 0; at < text.length(); at += 20) {
            deal.feed(four(text, at), four(text, at + 4), four(text, at + 8), four(text, at + 12), four(text, at + 16));
        }
        deal.end(text.length());
    }

    static int four(String text, int at) {
        int number = 0;
        for (int i = at; i < at + 4; i++) {
            number = number << 8 | (i < text.length() ? text.charAt(i) : 0);
        }
        return number;
    }
}

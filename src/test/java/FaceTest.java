import java.io.IOException;
import java.lang.reflect.Constructor;
import java.lang.reflect.Field;
import java.lang.reflect.Method;
import java.lang.reflect.Modifier;
import java.nio.file.Files;
import java.nio.file.Path;
import java.util.Arrays;
import java.util.Set;
import java.util.TreeSet;

/** The class has the document's face and no more, and its file keeps to what can be seen of LANGUAGE.md. */
public final class FaceTest {
    private static final String[] FACE = {"int addKind(int,int,int) AS", "int setRoom(int,int) IAS", "int warm(int,int) IA",
        "int setCrew(int) A", "int pay(int) A", "int addPort(int,int) AS", "int removePort(int) I",
        "int setPrice(int,int,int) IA", "int buy(int,int,int) IAS", "int move(int,int,int) IAS", "int discard(int,int) IA",
        "int pass(int) A", "int append(int) AS", "int clearBuffer() ", "int firstError() ", "int load() AS", "int undo() S",
        "int lot(int,int) IA", "int store(int,int) IA", "int kind(int,int) IA", "int port(int,int) IA",
        "int menu(int,int,int) IA", "int count(int) A", "int why(int,int,int) IA", "int ifPass(int,int) A",
        "int spoils(int,int) IA", "int shortIn(int) I", "int bestStore(int) I", "int leastPurchase(int,int) I",
        "int cheapest(int) I", "double meanAge() ", "long digest() "};
    private static final String[] RULED_OUT = {"import ", "catch", "finally", "synchronized", "assert ", "instanceof",
        "->", "::", "Double.", "Exact(", "Object", "@Override", "record ", "protected "};
    private static final Checks CHECKS = new Checks();

    public static void main(String[] args) throws IOException {
        CHECKS.equal("NONE", ShipStores.NONE, -1);
        int modifiers = ShipStores.class.getModifiers();
        CHECKS.holds("the class is public and final", Modifier.isPublic(modifiers) && Modifier.isFinal(modifiers));
        methods();
        otherMembers();
        language();
        CHECKS.end("FaceTest");
    }

    private static void methods() {
        Set<String> got = new TreeSet<>();
        Set<String> publicNames = new TreeSet<>();
        for (Method method : ShipStores.class.getDeclaredMethods()) {
            if (!Modifier.isPrivate(method.getModifiers())) {
                got.add(signOf(method));
                publicNames.add(method.getName());
            }
        }
        Set<String> due = new TreeSet<>(Arrays.asList(FACE));
        CHECKS.holds("the methods are " + got + ", due are " + due, got.equals(due));
        for (Class<?> inside : ShipStores.class.getDeclaredClasses()) {
            CHECKS.holds(inside + " is static", Modifier.isStatic(inside.getModifiers()));
            for (Method method : inside.getDeclaredMethods()) {
                CHECKS.holds(method + " has a public name", !publicNames.contains(method.getName()));
            }
        }
        for (Method method : ShipStores.class.getDeclaredMethods()) {
            boolean isPrivate = Modifier.isPrivate(method.getModifiers());
            CHECKS.holds(method + " has a public name", !isPrivate || !publicNames.contains(method.getName()));
        }
    }

    private static String signOf(Method method) {
        StringBuilder sign = new StringBuilder(method.getReturnType().getName());
        sign.append(' ').append(method.getName()).append('(');
        for (Class<?> type : method.getParameterTypes()) {
            sign.append(sign.charAt(sign.length() - 1) == '(' ? "" : ",").append(type.getName());
        }
        sign.append(") ");
        for (Class<?> thrown : method.getExceptionTypes()) {
            String name = thrown.getSimpleName();
            sign.append(name.startsWith("Index") ? 'I' : name.equals("IllegalStateException") ? 'S' : 'A');
        }
        return sign.toString();
    }

    private static void otherMembers() {
        for (Field field : ShipStores.class.getDeclaredFields()) {
            boolean isFaces = field.getName().equals("NONE") && Modifier.isPublic(field.getModifiers());
            CHECKS.holds(field + " is not private", isFaces || Modifier.isPrivate(field.getModifiers()));
            boolean isStatic = Modifier.isStatic(field.getModifiers());
            CHECKS.holds(field + " is not final", !isStatic || Modifier.isFinal(field.getModifiers()));
        }
        for (Constructor<?> constructor : ShipStores.class.getDeclaredConstructors()) {
            CHECKS.equal("arguments of " + constructor, constructor.getParameterCount(), 0);
            CHECKS.holds(constructor + " is not public", Modifier.isPublic(constructor.getModifiers()));
        }
    }

    private static void language() throws IOException {
        String text = Files.readString(Path.of("src/main/java/ShipStores.java"));
        String code = text.replaceAll("(?s)/\\*.*?\\*/", "").replaceAll("//[^\n]*", "");
        for (String word : RULED_OUT) {
            CHECKS.holds("the class has '" + word + "'", !code.contains(word));
        }
        methodsAreShort(code.split("\n"));
    }

    private static void methodsAreShort(String[] lines) {
        String begins = "( {4}| {8})(?! |if|for|while|switch|do|else|\\}|private static final class).*\\{| {12}throws .*\\{";
        int methods = 0;
        for (int first = 0; first < lines.length; first++) {
            if (lines[first].matches(begins)) {
                String end = lines[first].matches(" {8}[^ ].*") ? "        }" : "    }";
                int last = first;
                while (!lines[last].equals(end)) {
                    last++;
                }
                methods++;
                CHECKS.holds("too long, from: " + lines[first], last - first < 60);
            }
        }
        CHECKS.holds("the methods were found", methods > 100);
    }
}

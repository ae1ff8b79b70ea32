import java.io.IOException;
import java.lang.reflect.Constructor;
import java.lang.reflect.Field;
import java.lang.reflect.Method;
import java.lang.reflect.Modifier;
import java.nio.file.Files;
import java.nio.file.Path;
import java.util.ArrayList;
import java.util.Arrays;
import java.util.HashSet;
import java.util.List;
import java.util.Set;
import java.util.TreeSet;
import java.util.regex.Matcher;
import java.util.regex.Pattern;

/** The face that the document tells, and what LANGUAGE.md rules out and a test can see. */
public final class FaceTest {
    private static final String[] FACE = {"int ask(int,int,int,int,int,int,int)", "int again(int)", "int told(int,int)",
        "long answer(int)", "int name(int,int)", "int deliver(int,int)", "int lose(int)", "int twice(int)", "int bend(int)",
        "int letter(int,int)", "int flow(int)", "int fall(int)", "int rise(int)", "long account(int,int)",
        "int kept(int,int,int)", "int record(int,int,int)", "int leave(int,int)", "int times(int)", "long audit(int)",
        "long witness(int)", "int check(int,long)", "int count(int)"};
    private static final String OUT_OF_BOUNDS = "throw|throws|try|catch|synchronized|assert|System|import|double|float|"
        + "equals|hashCode|toString|var|record|enum|interface|abstract|static \\{|->|::|%| / |\\?\\?";

    private static final int[] NUMBERS = {Integer.MIN_VALUE, -1, 0, 1, 5, 6, 16, 300, Integer.MAX_VALUE};

    private FaceTest() {
    }

    public static void main(String[] args) throws Exception {
        constants();
        face();
        namesOfPrivateOnes();
        words();
        throwsNothing();
        Due.end("FaceTest");
    }

    private static void constants() {
        Due.due("NONE", OnceOnly.NONE, -1);
        Due.due("BAD", OnceOnly.BAD, -2000001);
        Due.due("STATE", OnceOnly.STATE, -2000002);
        Due.due("FULL", OnceOnly.FULL, -2000003);
        Due.due("OVER", OnceOnly.OVER, -3);
    }

    private static void same(String what, Set<String> got, Set<String> want) {
        if (!got.equals(want)) System.out.println(what + ": " + got + ", due are " + want);
        Due.due(what, got.equals(want) ? 1 : 0, 1);
    }

    private static void face() {
        Set<String> methods = new TreeSet<>();
        for (Method method : OnceOnly.class.getDeclaredMethods()) {
            if (Modifier.isPrivate(method.getModifiers())) continue;
            String types = Arrays.toString(Arrays.stream(method.getParameterTypes()).map(Class::getName).toArray());
            String bare = types.substring(1, types.length() - 1).replace(" ", "");
            methods.add(method.getReturnType().getName() + " " + method.getName() + "(" + bare + ")");
        }
        same("methods", methods, new TreeSet<>(Arrays.asList(FACE)));
        Set<String> fields = new TreeSet<>();
        for (Field field : OnceOnly.class.getDeclaredFields()) {
            if (!Modifier.isPrivate(field.getModifiers())) fields.add(field.getName());
        }
        same("fields", fields, new TreeSet<>(List.of("NONE", "BAD", "STATE", "FULL", "OVER")));
        Constructor<?>[] made = OnceOnly.class.getDeclaredConstructors();
        Due.due("constructors", made.length, 1);
        Due.due("its parameters", made[0].getParameterCount(), 1);
        Due.due("public and final", OnceOnly.class.getModifiers(), Modifier.PUBLIC | Modifier.FINAL);
        for (Class<?> inside : OnceOnly.class.getDeclaredClasses()) {
            int seen = inside.getModifiers() & (Modifier.PUBLIC | Modifier.PROTECTED | Modifier.STATIC);
            Due.due(inside.getName() + " is static and not shown", seen, Modifier.STATIC);
        }
    }

    private static void namesOfPrivateOnes() {
        Set<String> shown = new HashSet<>();
        for (String line : FACE) shown.add(line.substring(line.indexOf(' ') + 1, line.indexOf('(')));
        List<Method> hidden = new ArrayList<>(Arrays.asList(OnceOnly.class.getDeclaredMethods()));
        hidden.removeIf(method -> Modifier.isPublic(method.getModifiers()));
        for (Class<?> inside : OnceOnly.class.getDeclaredClasses()) {
            hidden.addAll(Arrays.asList(inside.getDeclaredMethods()));
        }
        for (Method method : hidden) {
            Due.due(method.getName() + " is also public", shown.contains(method.getName()) ? 1 : 0, 0);
            Due.due(method.getName() + "'s parameters past 7", Math.max(7, method.getParameterCount()), 7);
        }
    }

    private static void words() throws IOException {
        String source = Files.readString(Path.of("src/main/java/OnceOnly.java"));
        for (char sign : source.toCharArray()) if (sign > 126) Due.due("a sign", sign, 126);
        String code = source.replaceAll("(?s)/\\*.*?\\*/", "").replaceAll("//[^\n]*", "");
        code = code.replace("int record(int server", "");
        Matcher found = Pattern.compile("(?<!\\w)(" + OUT_OF_BOUNDS + ")(?!\\w)").matcher(code);
        while (found.find()) Due.due("'" + found.group() + "' stands in the class", 1, 0);
    }

    /** Each method with each choice of far-off numbers, on a new object and on one that was used: it must come back. */
    private static void throwsNothing() throws ReflectiveOperationException {
        OnceOnly used = Due.withFar(1);
        used.deliver(0, 2);
        for (Method method : OnceOnly.class.getDeclaredMethods()) {
            if (!Modifier.isPublic(method.getModifiers())) continue;
            int many = method.getParameterCount();
            for (int choice = 0; choice < 700; choice++) {
                Object[] numbers = new Object[many];
                int left = many < 4 ? choice : choice * 7919;
                for (int i = 0; i < many; i++) {
                    int number = NUMBERS[left % NUMBERS.length];
                    numbers[i] = method.getParameterTypes()[i] == long.class ? (Object) (long) number : (Object) number;
                    left /= NUMBERS.length;
                }
                method.invoke(new OnceOnly(choice), numbers);
                if (choice % 3 == 0) method.invoke(used, numbers);
            }
        }
        Due.due("all came back", 1, 1);
    }
}

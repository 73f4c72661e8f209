import java.io.IOException;
import java.lang.reflect.Constructor;
import java.lang.reflect.Field;
import java.lang.reflect.Method;
import java.lang.reflect.Modifier;
import java.nio.file.Files;
import java.nio.file.Path;
import java.util.ArrayList;
import java.util.Arrays;
import java.util.List;
import java.util.TreeSet;
import java.util.regex.Matcher;
import java.util.regex.Pattern;

/** The face that the document tells, and what rules of LANGUAGE.md can be seen from the source or the class. */
public final class RulesTest {
    private static final String INDEX = "IndexOutOfBoundsException";
    private static final String ARGUMENT = "IllegalArgumentException";
    private static final String STATE = "IllegalStateException";

    private static final String[] FACE = {
        "int append(int) " + ARGUMENT + " " + STATE, "int clearText()", "int errorPosition()", "int load() " + STATE,
        "int about(int) " + ARGUMENT, "int frame(int,int) " + INDEX + " " + ARGUMENT,
        "int waiting(int,int) " + INDEX + " " + ARGUMENT, "int block(int) " + INDEX,
        "int broken(int,int) " + INDEX + " " + ARGUMENT, "int setting(int) " + ARGUMENT, "int shoot(int) " + ARGUMENT,
        "int ticks(int) " + ARGUMENT, "int drop(int) " + INDEX, "int format(int) " + ARGUMENT,
        "int set(int,int) " + ARGUMENT, "int undo() " + STATE, "int storedIn(int) " + INDEX, "int least()",
        "int room(int) " + ARGUMENT, "int leastPace()", "int drops(int,int) " + ARGUMENT,
        "int runScript(int,long) " + ARGUMENT, "int simulate(long,int) " + ARGUMENT, "int save(int) " + INDEX,
        "int restore(int) " + INDEX + " " + STATE};

    private static final String[] BANNED = {"import ", "package ", "->", "::", "finally", "catch", "try", "synchronized",
        "assert", "protected", "native", "volatile", "transient", "System.out", "System.err", "currentTimeMillis",
        "nanoTime", "Random", "Thread", "Exact", "var ", "float", "double", "String ", "\" +", "getClass", "hashCode",
        "equals", "toString", "strictfp", "goto"};

    private static int failed = 0;

    private static void need(boolean right, String what) {
        if (!right) {
            failed++;
            System.out.println("rules: " + what);
        }
    }

    private static String told(Method m) {
        List<String> types = new ArrayList<>();
        for (Class<?> t : m.getParameterTypes()) {
            types.add(t.getSimpleName());
        }
        StringBuilder s = new StringBuilder(m.getReturnType().getSimpleName() + " " + m.getName() + "("
                + String.join(",", types) + ")");
        for (Class<?> e : m.getExceptionTypes()) {
            s.append(' ').append(e.getSimpleName());
        }
        return s.toString();
    }

    private static void face() {
        need(Modifier.isFinal(FrameCard.class.getModifiers()), "the class is not final");
        need(Modifier.isPublic(FrameCard.class.getModifiers()), "the class is not public");
        TreeSet<String> want = new TreeSet<>(Arrays.asList(FACE));
        TreeSet<String> publicNames = new TreeSet<>();
        TreeSet<String> got = new TreeSet<>();
        for (Method m : FrameCard.class.getDeclaredMethods()) {
            if (!Modifier.isPrivate(m.getModifiers()) && !m.isSynthetic()) {
                got.add(told(m));
                publicNames.add(m.getName());
                need(m.getModifiers() == Modifier.PUBLIC, m + " is not just public");
            }
        }
        need(want.equals(got), "the face is " + got);
        for (Method m : FrameCard.class.getDeclaredMethods()) {
            need(!Modifier.isPrivate(m.getModifiers()) || !publicNames.contains(m.getName()), "private " + m.getName());
        }
        Constructor<?>[] made = FrameCard.class.getDeclaredConstructors();
        need(made.length == 1 && made[0].getModifiers() == Modifier.PUBLIC && made[0].getParameterCount() == 0,
                "the constructor is not the one of the face");
        for (Class<?> inside : FrameCard.class.getDeclaredClasses()) {
            need(Modifier.isStatic(inside.getModifiers()), inside + " is not static");
            need(!Modifier.isPublic(inside.getModifiers()), inside + " is public");
            fields(inside);
        }
        need(FrameCard.class.getDeclaredClasses().length <= 11, "too many classes");
        fields(FrameCard.class);
    }

    private static void fields(Class<?> c) {
        int own = 0;
        for (Field f : c.getDeclaredFields()) {
            int how = f.getModifiers();
            if (Modifier.isStatic(how)) {
                need(Modifier.isFinal(how), f + " is static and not final");
            } else {
                own++;
            }
            boolean isNone = f.getName().equals("NONE");
            need(isNone ? how == (Modifier.PUBLIC | Modifier.STATIC | Modifier.FINAL) : Modifier.isPrivate(how),
                    f + " is not private, or NONE is not public");
        }
        need(own <= 20, c + " has " + own + " fields");
        for (Method m : c.getDeclaredMethods()) {
            need(m.getParameterCount() <= 7, m + " takes too many parameters");
        }
    }

    private static void source(String whole) {
        String code = whole.replaceAll("(?s)/\\*.*?\\*/", "").replaceAll("//[^\n]*", "");
        for (int i = 0; i < whole.length(); i++) {
            need(whole.charAt(i) == '\n' || whole.charAt(i) >= 32 && whole.charAt(i) < 127, "an odd sign at " + i);
        }
        for (String word : BANNED) {
            need(!Pattern.compile("(?<![A-Za-z])" + Pattern.quote(word)).matcher(code).find(), "the source has " + word);
        }
        Matcher thrown = Pattern.compile("throw\\s[^;]*;").matcher(code);
        while (thrown.find()) {
            need(thrown.group().matches("throw new (" + INDEX + "|" + ARGUMENT + "|" + STATE + ")\\(\"[^\"]*\"\\);"),
                    "the source has " + thrown.group());
        }
        Matcher library = Pattern.compile("\\b(System|Math|Integer|Long|Arrays|String|List|ArrayList)\\b\\.?\\w*").matcher(code);
        while (library.find()) {
            need(library.group().equals("System.arraycopy"), "the source has " + library.group());
        }
        for (String line : code.split("\n")) {
            need(line.length() <= 120, "a long line: " + line);
        }
        lengths(code);
    }

    /** A method begins with a line that opens a body behind its parameters, and ends with a brace as far in. */
    private static void lengths(String code) {
        Matcher method = Pattern.compile("(?m)^( {4}| {8})\\w[^\n;=]*\\)[^\n;]*\\{\n(?s:.*?)^\\1\\}").matcher(code);
        int found = 0;
        while (method.find()) {
            found++;
            String whole = method.group();
            need(whole.split("\n").length <= 60, "a long method: " + whole.substring(0, whole.indexOf('\n')));
        }
        need(found > FACE.length, "only " + found + " methods found");
    }

    /** A new object for every call of a room of 512 calls still fits into the room. */
    private static void sizeOfOne() {
        int[] counted = new int[2];
        count(new FrameCard(), counted);
        need(counted[0] * 512L < 600000L, "one object holds " + counted[0] + " objects and arrays");
        need(counted[1] * 512L < 7300000L, "one object holds " + counted[1] + " fields and elements");
        System.out.println("rules: one FrameCard holds " + counted[0] + " objects and arrays, " + counted[1]
                + " fields and elements");
    }

    private static void count(Object o, int[] counted) {
        counted[0]++;
        if (o.getClass().isArray()) {
            int length = java.lang.reflect.Array.getLength(o);
            counted[1] += length;
            for (int i = 0; i < length && !o.getClass().getComponentType().isPrimitive(); i++) {
                count(java.lang.reflect.Array.get(o, i), counted);
            }
            return;
        }
        for (Field f : o.getClass().getDeclaredFields()) {
            if (!Modifier.isStatic(f.getModifiers())) {
                counted[1]++;
                if (!f.getType().isPrimitive()) {
                    f.setAccessible(true);
                    try {
                        count(f.get(o), counted);
                    } catch (IllegalAccessException e) {
                        need(false, "can't look into " + f);
                    }
                }
            }
        }
    }

    public static void main(String[] args) throws IOException {
        face();
        source(Files.readString(Path.of("src/main/java/FrameCard.java")));
        sizeOfOne();
        System.out.println(failed == 0 ? "rules: kept" : "rules: " + failed + " broken");
        System.exit(failed == 0 ? 0 : 1);
    }
}

import java.lang.reflect.Constructor;
import java.lang.reflect.Field;
import java.lang.reflect.Method;
import java.lang.reflect.Modifier;
import java.nio.file.Files;
import java.nio.file.Path;
import java.util.ArrayList;
import java.util.List;
import java.util.Set;
import java.util.TreeSet;
import java.util.regex.Pattern;

/** The public face is the document's and no other; what LANGUAGE.md rules out does not stand in the class. */
public final class FaceTest {
    private static final String[] FACE = {
        "int sign(int)", "boolean end(int)", "int mill()", "int hole(int,int)", "int lead(int,int)",
        "int deep(int,int)", "int sheet(int,int,int,int)", "int cross(int,int,int)", "boolean truly(int,int,int)",
        "boolean think(int,int,int)", "boolean pound(int,int)", "int feel(int,int)", "int hums(int,int)",
        "int whole(int,int,int,int)", "int much(int,int,int)", "int drop()", "int which()", "int ends()",
        "int judge(int,int)", "int bars()", "int next(int,int)", "int enough(int,int,int)",
        "boolean man(int,int,int)", "int tells(int,int)", "int men(int,int,int,int)", "long rest(int)",
        "long best(int,int)", "long off(int,int)", "long instead(int,int)", "int fewest(int,long)",
        "long all(int,int)", "int ounce(int,int)", "int settle(int)", "int both(int,int,int,int,int)",
        "long two(int)", "boolean at(int,int,int)", "long worst()", "int floor(int,long,int,long)",
        "int whose(int,int,int,long,long,long)", "int part(int)", "int buckets(int,long)", "long cogs()",
        "long order()", "int round()", "boolean keep(int)", "boolean again(int)", "int count(int)", "long row(int)",
    };

    private static final String[] NEVER = {
        "catch", "try", "finally", "synchronized", "assert", "->", "::", "System.", "Exact(", "double", "float",
        "instanceof", "String", "Object", ".equals(", "hashCode", "Random", "Thread",
    };

    private static int wrong = 0;

    public static void main(String[] args) throws Exception {
        Class<?> stone = StoneThatShakes.class;
        Set<String> names = new TreeSet<>();
        checkFace(stone, names);
        checkInside(stone, names);
        checkText();
        System.out.println(wrong == 0 ? "the face is as due" : wrong + " faults of the face");
        if (wrong != 0) {
            System.exit(1);
        }
    }

    private static void say(boolean good, String fault) {
        if (!good) {
            wrong++;
            System.out.println(fault);
        }
    }

    private static void checkFace(Class<?> stone, Set<String> names) throws Exception {
        Set<String> due = new TreeSet<>(List.of(FACE));
        Set<String> found = new TreeSet<>();
        for (Method m : stone.getDeclaredMethods()) {
            if (Modifier.isPublic(m.getModifiers())) {
                List<String> types = new ArrayList<>();
                for (Class<?> type : m.getParameterTypes()) {
                    types.add(type.getName());
                }
                found.add(m.getReturnType().getName() + " " + m.getName() + "(" + String.join(",", types) + ")");
                names.add(m.getName());
                say(!Modifier.isStatic(m.getModifiers()), "static: " + m);
            }
        }
        say(due.equals(found), "the face is " + found);
        say(Modifier.isFinal(stone.getModifiers()) && Modifier.isPublic(stone.getModifiers()), "public final class");
        say(stone.getDeclaredConstructors().length == 1, "one constructor");
        for (Constructor<?> c : stone.getDeclaredConstructors()) {
            say(Modifier.isPublic(c.getModifiers()) && c.getParameterCount() == 0, "constructor " + c);
        }
        Field none = stone.getField("NONE");
        int modifiers = none.getModifiers();
        say(none.getInt(null) == -1 && Modifier.isStatic(modifiers) && Modifier.isFinal(modifiers), "NONE");
    }

    private static void checkInside(Class<?> stone, Set<String> names) {
        for (Method m : stone.getDeclaredMethods()) {
            boolean isPublic = Modifier.isPublic(m.getModifiers());
            say(isPublic || Modifier.isPrivate(m.getModifiers()), "seen from outside: " + m);
            say(isPublic || !names.contains(m.getName()), "a name of the face again: " + m);
            say(m.getParameterCount() <= 7, "too many parameters: " + m);
        }
        checkFields(stone);
        say(stone.getDeclaredClasses().length <= 12, "too many classes");
        for (Class<?> inside : stone.getDeclaredClasses()) {
            int modifiers = inside.getModifiers();
            say(Modifier.isStatic(modifiers) && Modifier.isPrivate(modifiers), "class inside: " + inside);
            checkFields(inside);
            for (Method m : inside.getDeclaredMethods()) {
                say(!names.contains(m.getName()), "a name of the face again: " + m);
                say(m.getParameterCount() <= 7, "too many parameters: " + m);
            }
        }
    }

    private static void checkFields(Class<?> type) {
        int own = 0;
        for (Field f : type.getDeclaredFields()) {
            if (Modifier.isStatic(f.getModifiers())) {
                say(Modifier.isFinal(f.getModifiers()), "a static field that may change: " + f);
                continue;
            }
            own++;
            say(Modifier.isPrivate(f.getModifiers()), "seen from outside: " + f);
        }
        say(own <= 20, "too many fields: " + type);
    }

    private static void checkText() throws Exception {
        List<String> lines = Files.readAllLines(Path.of("src/main/java/StoneThatShakes.java"));
        List<String> imports = new ArrayList<>();
        for (int i = 0; i < lines.size(); i++) {
            String line = lines.get(i);
            String code = line.strip().startsWith("*") || line.strip().startsWith("/") ? "" : line;
            if (code.startsWith("import")) {
                imports.add(code);
            }
            for (String word : NEVER) {
                String alone = word.matches("[A-Za-z]+") ? "\\b" + word + "\\b" : Pattern.quote(word);
                say(!Pattern.compile(alone).matcher(code).find(), "line " + (i + 1) + " has " + word);
            }
            say(line.chars().allMatch(c -> c < 128), "line " + (i + 1) + " has a strange sign");
        }
        say(imports.equals(List.of("import java.util.NoSuchElementException;")), "imports " + imports);
    }
}

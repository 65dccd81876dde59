import java.io.IOException;
import java.lang.reflect.Constructor;
import java.lang.reflect.Field;
import java.lang.reflect.Method;
import java.lang.reflect.Modifier;
import java.nio.file.Files;
import java.nio.file.Path;
import java.util.Set;
import java.util.TreeSet;
import java.util.regex.Matcher;
import java.util.regex.Pattern;

/** The document's face, and the rules of LANGUAGE.md that a program can look at. */
public final class LanguageTest {
    private static final Path SOURCE = Path.of("src/main/java/ConfinementAnalyzer.java");
    private static final String FACE = "append/1 clearText/0 load/0 objectCount/0 kind/1 behaviour/1 setBehaviour/2 "
            + "setGroup/2 addReference/2 removeReference/1 referenceCount/0 mayHold/2 round/2 rule/2 partner/2 "
            + "derivationSize/2 lastRound/0 coarselyMayHold/2 forbid/2 permit/2 violationCount/0 smallestRepair/0 "
            + "give/3 take/3 open/3 create/2 restartRun/0 holdsInRun/2 undo/0 undoDepth/0";
    private static final String CONSTANTS = "INVALID_ARGUMENT=-1 ILLEGAL_STATE=-2 CAPACITY_EXCEEDED=-3 NONE=-9 "
            + "GIVES=1 TAKES=2 KEEPS=4 ANSWERS=8";
    private static final String[] BANNED = {"\\b(throw|try|catch|finally|synchronized|assert|native|volatile)\\b",
        "->", "::", "\\bnew\\s+\\w+\\s*\\([^()]*\\)\\s*\\{", "\\w+Exact\\b", "\\bObject\\b", "\\bSystem\\.(?!arraycopy\\b)",
        "\\b(equals|hashCode|toString)\\b", "\\bstatic\\s*\\{", "^package\\b"};
    private static int wrong = 0;

    private static void fault(String what) {
        wrong++;
        System.out.println(what);
    }

    private static void checkSame(String what, String want, Set<String> got) {
        Set<String> wanted = new TreeSet<>(Set.of(want.split(" ")));
        if (!wanted.equals(got)) {
            fault(what + ": due are " + wanted + ", there are " + got);
        }
    }

    private static void checkHidden(String name, int modifiers) {
        if (!Modifier.isPrivate(modifiers)) {
            fault(name + " is neither of the face nor private");
        }
    }

    private static void checkFace() throws IllegalAccessException {
        Class<?> c = ConfinementAnalyzer.class;
        if (!Modifier.isPublic(c.getModifiers()) || !Modifier.isFinal(c.getModifiers())) {
            fault("the class is not public and final");
        }
        Set<String> methods = new TreeSet<>();
        for (Method m : c.getDeclaredMethods()) {
            if (!Modifier.isPublic(m.getModifiers())) {
                checkHidden(m.getName(), m.getModifiers());
            } else {
                methods.add(m.getName() + "/" + m.getParameterCount());
                checkInts(m);
            }
        }
        checkSame("methods", FACE, methods);
        Set<String> constants = new TreeSet<>();
        for (Field f : c.getDeclaredFields()) {
            if (!Modifier.isPublic(f.getModifiers())) {
                checkHidden(f.getName(), f.getModifiers());
            } else if (Modifier.isStatic(f.getModifiers()) && Modifier.isFinal(f.getModifiers())) {
                constants.add(f.getName() + "=" + f.get(null));
            } else {
                fault(f.getName() + " is public and no constant");
            }
        }
        checkSame("constants", CONSTANTS, constants);
        Constructor<?>[] constructors = c.getDeclaredConstructors();
        if (constructors.length != 1 || !Modifier.isPublic(constructors[0].getModifiers())
                || constructors[0].getParameterCount() != 0) {
            fault("there is not just the one constructor");
        }
    }

    private static void checkInts(Method m) {
        if (m.getReturnType() != int.class || Modifier.isStatic(m.getModifiers())) {
            fault(m.getName() + " is not an int method of the object");
        }
        for (Class<?> type : m.getParameterTypes()) {
            if (type != int.class) {
                fault(m.getName() + " takes something but ints");
            }
        }
    }

    private static void checkNested() {
        Class<?>[] nested = ConfinementAnalyzer.class.getDeclaredClasses();
        if (nested.length > 11) {
            fault("there are " + (nested.length + 1) + " classes");
        }
        Set<String> face = new TreeSet<>();
        for (String method : FACE.split(" ")) {
            face.add(method.substring(0, method.indexOf('/')));
        }
        for (Class<?> n : nested) {
            if (!Modifier.isStatic(n.getModifiers()) || Modifier.isPublic(n.getModifiers())) {
                fault(n.getName() + " is not static and hidden");
            }
            for (Method m : n.getDeclaredMethods()) {
                if (face.contains(m.getName())) {
                    fault(n.getName() + "." + m.getName() + " bears a public name");
                }
                if (m.getParameterCount() > 7) {
                    fault(n.getName() + "." + m.getName() + " has too many parameters");
                }
            }
            checkFields(n);
        }
        checkFields(ConfinementAnalyzer.class);
    }

    private static void checkFields(Class<?> c) {
        int own = 0;
        for (Field f : c.getDeclaredFields()) {
            if (!Modifier.isStatic(f.getModifiers())) {
                own++;
            } else if (!Modifier.isFinal(f.getModifiers())) {
                fault(c.getName() + "." + f.getName() + " is static and not final");
            }
        }
        if (own > 20) {
            fault(c.getName() + " has " + own + " fields");
        }
    }

    private static void checkSource() throws IOException {
        String source = Files.readString(SOURCE);
        String code = source.replaceAll("(?s)/\\*.*?\\*/", " ").replaceAll("//[^\n]*", " ")
                .replaceAll("\"[^\"\n]*\"", "\"\"");
        for (String banned : BANNED) {
            Matcher m = Pattern.compile(banned, Pattern.MULTILINE).matcher(code);
            if (m.find()) {
                fault("the source has " + m.group());
            }
        }
        Matcher imports = Pattern.compile("\\bimport\\s+([\\w.*]+)").matcher(code);
        while (imports.find()) {
            if (!Set.of("java.util.Arrays", "java.util.ArrayList", "java.util.List").contains(imports.group(1))) {
                fault("the source imports " + imports.group(1));
            }
        }
        Matcher method = Pattern.compile("(?m)^( {4}| {8})(?! )[\\w\\[\\] ]+ (\\w+)\\([^)]*\\) \\{\n((?s:.*?))^\\1\\}").matcher(code);
        while (method.find()) {
            long lines = method.group(3).lines().count();
            if (lines > 60) {
                fault(method.group(2) + " has " + lines + " lines");
            }
            // All calls of a run live in one room: what the object needs is made with it.
            if (method.group(3).matches("(?s).*\\b(new|clone|copyOf|copyOfRange|substring|toCharArray)\\b.*")) {
                fault(method.group(2) + " makes an object");
            }
        }
    }

    public static void main(String[] args) throws IOException, IllegalAccessException {
        checkFace();
        checkNested();
        checkSource();
        System.out.println(wrong == 0 ? "the rules are kept" : wrong + " rules are broken");
        if (wrong != 0) {
            System.exit(1);
        }
    }
}

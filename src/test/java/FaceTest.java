import java.lang.reflect.Constructor;
import java.lang.reflect.Field;
import java.lang.reflect.Member;
import java.lang.reflect.Method;
import java.lang.reflect.Modifier;
import java.nio.file.Files;
import java.nio.file.Path;
import java.util.Arrays;
import java.util.Set;
import java.util.TreeSet;
import java.util.stream.Collectors;
import java.util.stream.Stream;

/** The public face, and those rules of LANGUAGE.md that can be seen from outside. */
public final class FaceTest {
    private static final String FACE = "purse 2, port 1, wind 2, galley 4, bid 3, let 1, part 4, parts 2, bale 4, "
            + "about 2, feed 2, vote 1, known 2, says 3, start 1, day 1, toss 2, ship 2, count 1, coins 1";

    public static void main(String[] args) throws Exception {
        constants();
        methods();
        nothingElseIsSeen();
        words();
        Due.end();
    }

    private static void constants() {
        Due.due("BAD", GalleyConvoy.BAD, -1);
        Due.due("NOT", GalleyConvoy.NOT, -2);
        Due.due("FULL", GalleyConvoy.FULL, -3);
        Due.due("public and final", GalleyConvoy.class.getModifiers(), Modifier.PUBLIC | Modifier.FINAL);
    }

    private static void methods() {
        Set<String> found = Arrays.stream(GalleyConvoy.class.getDeclaredMethods())
                .filter(m -> Modifier.isPublic(m.getModifiers())).filter(m -> m.getReturnType() == int.class)
                .filter(m -> Arrays.stream(m.getParameterTypes()).allMatch(t -> t == int.class))
                .map(m -> m.getName() + " " + m.getParameterCount()).collect(Collectors.toCollection(TreeSet::new));
        Set<String> wanted = new TreeSet<>(Arrays.asList(FACE.split(", ")));
        same("the methods of the face", found.toString(), wanted.toString());
        Set<String> names = wanted.stream().map(s -> s.split(" ")[0]).collect(Collectors.toSet());
        for (Class<?> c : allClasses()) {
            for (Method m : c.getDeclaredMethods()) {
                boolean own = c == GalleyConvoy.class && Modifier.isPublic(m.getModifiers());
                Due.due(m + " bears a name of the face", !own && names.contains(m.getName()) ? 1 : 0, 0);
                Due.due(m + " has more than seven parameters", m.getParameterCount() > 7 ? 1 : 0, 0);
            }
        }
    }

    private static Class<?>[] allClasses() {
        return Stream.concat(Stream.of(GalleyConvoy.class), Arrays.stream(GalleyConvoy.class.getDeclaredClasses()))
                .toArray(Class<?>[]::new);
    }

    private static void nothingElseIsSeen() {
        int seen = 0;
        for (Constructor<?> c : GalleyConvoy.class.getDeclaredConstructors()) {
            seen += isSeen(c) ? 1 : 0;
        }
        for (Method m : GalleyConvoy.class.getDeclaredMethods()) {
            seen += isSeen(m) ? 1 : 0;
        }
        for (Field f : GalleyConvoy.class.getDeclaredFields()) {
            seen += isSeen(f) ? 1 : 0;
        }
        Due.due("members that are not private", seen, 1 + 20 + 3);
        for (Class<?> c : allClasses()) {
            int fields = 0;
            for (Field f : c.getDeclaredFields()) {
                Due.due(f + " is static and not final",
                        Modifier.isStatic(f.getModifiers()) && !Modifier.isFinal(f.getModifiers()) ? 1 : 0, 0);
                fields += Modifier.isStatic(f.getModifiers()) ? 0 : 1;
            }
            Due.due(c + " has more than 20 fields", fields > 20 ? 1 : 0, 0);
        }
        Due.due("more than twelve classes", allClasses().length > 12 ? 1 : 0, 0);
    }

    private static boolean isSeen(Member m) {
        return !Modifier.isPrivate(m.getModifiers()) && !m.isSynthetic();
    }

    private static void words() throws Exception {
        String source = Files.readString(Path.of("src/main/java/GalleyConvoy.java"));
        String code = source.replaceAll("//[^\n]*", "").replaceAll("(?s)/\\*.*?\\*/", "").replaceAll("\"[^\"]*\"", "\"\"");
        for (String word : "throw try catch synchronized assert package protected instanceof lambda".split(" ")) {
            Due.due("the word " + word, code.matches("(?s).*\\b" + word + "\\b.*") ? 1 : 0, 0);
        }
        Due.due("-> or ::", code.contains("->") || code.contains("::") ? 1 : 0, 0);
        Due.due("texts joined by +", code.contains("\" +") || code.contains("+ \"") ? 1 : 0, 0);
        Due.due("imports", code.lines().filter(s -> s.startsWith("import")).count(), 2);
    }

    private static void same(String what, String got, String want) {
        Due.due(what + ": " + got + " for " + want, got.equals(want) ? 1 : 0, 1);
    }
}

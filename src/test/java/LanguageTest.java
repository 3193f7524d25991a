import java.lang.reflect.Constructor;
import java.lang.reflect.Executable;
import java.lang.reflect.Field;
import java.lang.reflect.Member;
import java.lang.reflect.Method;
import java.lang.reflect.Modifier;
import java.nio.file.Files;
import java.nio.file.Path;
import java.util.ArrayList;
import java.util.List;
import java.util.Set;
import java.util.TreeSet;
import java.util.regex.Matcher;
import java.util.regex.Pattern;

/**
 * What can be seen from outside of ../shared/LANGUAGE.md: rules 1, 2, 5 and 11 by the members of the
 * classes, rules 1, 2, 4, 6 and 11 by the words of the source. Run in the project's directory.
 */
public final class LanguageTest {
    private static final Check CHECK = new Check("LanguageTest");
    private static final Path SOURCE = Path.of("src/main/java/TrapSurvey.java");
    private static final Pattern COMMENT_OR_TEXT = Pattern.compile(
            "//[^\n]*|/\\*.*?\\*/|\"(\\\\.|[^\"\\\\])*\"|'(\\\\.|[^'\\\\])'", Pattern.DOTALL);
    private static final Pattern FORBIDDEN = Pattern.compile(
            "\\b(throw|throws|try|catch|finally|synchronized|assert|package|native|volatile|transient|var|goto)\\b"
            + "|->|::|\\bstatic\\s*\\{|\\bnew\\s+\\w+\\s*\\([^()]*\\)\\s*\\{|\\bimport\\s+static\\b");
    private static final Pattern OF_THE_LIBRARY = Pattern.compile("\\b(Math|Arrays|System|Integer|Long)\\.(\\w+)");
    private static final Set<String> LISTED = Set.of("Math.abs", "Math.min", "Math.max", "Arrays.fill",
            "Math.floorDiv", "Math.floorMod", "Arrays.copyOf", "Arrays.copyOfRange", "System.arraycopy",
            "Integer.compare", "Integer.bitCount", "Long.compare", "Long.bitCount");
    private static final Set<String> IMPORTED = Set.of("java.util.Arrays", "java.util.ArrayList", "java.util.List",
            "java.util.Iterator");
    private static final Pattern METHOD = Pattern.compile("( +)[a-zA-Z][^=;]*\\) \\{");

    public static void main(String[] args) throws Exception {
        String source = Files.readString(SOURCE);
        String code = COMMENT_OR_TEXT.matcher(source).replaceAll(" ");
        rule1Members();
        rule2ClassesInside();
        rule5StaticFields();
        rule11Numbers();
        hasNoForbiddenWord(code);
        rule4Library(code);
        rule11Lines(source);
        CHECK.end();
    }

    private static void none(String what, List<String> found) {
        CHECK.same(what, "[]", found.toString());
    }

    private static List<Class<?>> classes() {
        List<Class<?>> all = new ArrayList<>(List.of(TrapSurvey.class));
        for (int i = 0; i < all.size(); i++) {
            all.addAll(List.of(all.get(i).getDeclaredClasses()));
        }
        return all;
    }

    private static List<Member> members(Class<?> of) {
        List<Member> all = new ArrayList<>(List.of(of.getDeclaredFields()));
        all.addAll(List.of(of.getDeclaredMethods()));
        all.addAll(List.of(of.getDeclaredConstructors()));
        return all;
    }

    /** "no other public, protected or package-visible member"; "No private method bears the name of a public one". */
    private static void rule1Members() {
        List<String> visible = new ArrayList<>();
        for (Member member : members(TrapSurvey.class)) {
            int modifiers = member.getModifiers();
            if (!member.isSynthetic() && !Modifier.isPublic(modifiers) && !Modifier.isPrivate(modifiers)) {
                visible.add(member.getName());
            }
        }
        none("the members that are neither public nor private", visible);
        Set<String> ofTheFace = new TreeSet<>();
        List<String> sameNames = new ArrayList<>();
        for (Method method : TrapSurvey.class.getDeclaredMethods()) {
            if (Modifier.isPublic(method.getModifiers())) {
                ofTheFace.add(method.getName());
            }
        }
        for (Class<?> inside : classes()) {
            for (Method method : inside.getDeclaredMethods()) {
                if (!Modifier.isPublic(method.getModifiers()) && ofTheFace.contains(method.getName())) {
                    sameNames.add(inside.getName() + "." + method.getName());
                }
            }
        }
        none("the methods inside with the name of a public one", sameNames);
    }

    /** "the classes inside it, which are private or package-visible and static". */
    private static void rule2ClassesInside() {
        List<String> others = new ArrayList<>();
        for (Class<?> inside : classes()) {
            int modifiers = inside.getModifiers();
            if (inside != TrapSurvey.class && (!Modifier.isStatic(modifiers) || Modifier.isPublic(modifiers)
                    || Modifier.isProtected(modifiers))) {
                others.add(inside.getName());
            }
        }
        none("the classes inside that are not static, or can be seen", others);
    }

    /** "Static fields are final". */
    private static void rule5StaticFields() {
        List<String> changeable = new ArrayList<>();
        for (Class<?> inside : classes()) {
            for (Field field : inside.getDeclaredFields()) {
                int modifiers = field.getModifiers();
                if (Modifier.isStatic(modifiers) && !Modifier.isFinal(modifiers)) {
                    changeable.add(field.getName());
                }
            }
        }
        none("the static fields that are not final", changeable);
    }

    /** "at most seven parameters", "some twelve classes", "some twenty fields beside its constants". */
    private static void rule11Numbers() {
        List<String> tooMany = new ArrayList<>();
        for (Class<?> inside : classes()) {
            int fields = 0;
            for (Field field : inside.getDeclaredFields()) {
                fields += Modifier.isStatic(field.getModifiers()) ? 0 : 1;
            }
            if (fields > 20) {
                tooMany.add(inside.getName() + " has " + fields + " fields");
            }
            for (Member member : members(inside)) {
                if ((member instanceof Method || member instanceof Constructor)
                        && ((Executable) member).getParameterCount() > 7) {
                    tooMany.add(member.getName() + " has too many parameters");
                }
            }
        }
        none("what is too much", tooMany);
        CHECK.due("there are at most twelve classes", 1, classes().size() <= 12 ? 1 : 0);
    }

    /** Rules 1, 2, 5 and 6: no such statement, no local or anonymous class, no lambda, no static block. */
    private static void hasNoForbiddenWord(String code) {
        List<String> found = new ArrayList<>();
        Matcher matcher = FORBIDDEN.matcher(code);
        while (matcher.find()) {
            found.add(matcher.group());
        }
        none("the words that are not allowed", found);
    }

    /** "The library: only what stands here." */
    private static void rule4Library(String code) {
        List<String> others = new ArrayList<>();
        Matcher used = OF_THE_LIBRARY.matcher(code);
        while (used.find()) {
            if (!LISTED.contains(used.group())) {
                others.add(used.group());
            }
        }
        Matcher imported = Pattern.compile("\\bimport\\s+([^;]+);").matcher(code);
        while (imported.find()) {
            if (!IMPORTED.contains(imported.group(1))) {
                others.add(imported.group(1));
            }
        }
        none("what is used of the library beside the list", others);
    }

    /** "Methods stay short (some sixty lines)". */
    private static void rule11Lines(String source) {
        List<String> tooLong = new ArrayList<>();
        String[] lines = source.split("\n");
        int methods = 0;
        for (int first = 0; first < lines.length; first++) {
            Matcher head = METHOD.matcher(lines[first]);
            if (head.matches() && !lines[first].matches(" +(if|for|while|switch|else).*")) {
                methods++;
                int last = first;
                while (last + 1 < lines.length && !lines[last].equals(head.group(1) + "}")) {
                    last++;
                }
                if (last - first > 60) {
                    tooLong.add(lines[first].trim());
                }
            }
        }
        none("the methods that are too long", tooLong);
        CHECK.due("the methods were found", 1, methods > 60 ? 1 : 0);
    }
}

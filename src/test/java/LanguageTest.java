import java.io.IOException;
import java.lang.reflect.Field;
import java.lang.reflect.Member;
import java.lang.reflect.Method;
import java.lang.reflect.Modifier;
import java.nio.charset.StandardCharsets;
import java.nio.file.Files;
import java.nio.file.Path;
import java.util.Arrays;
import java.util.Set;
import java.util.TreeSet;
import java.util.regex.Matcher;
import java.util.regex.Pattern;

/** The document's face, and those rules of ../shared/LANGUAGE.md that a program can look for. */
public final class LanguageTest {
    private static final Checks CHECKS = new Checks();
    private static final Path PROGRAM = Path.of("src/main/java/KnowsBetter.java");

    private static final Set<String> LIBRARY = Set.of("Math.max", "Math.min", "Math.abs", "Integer.bitCount");

    private static final String FACE = """
        int write(int)
        int wipe()
        int fault()
        int table()
        int about(int)
        int person(int,int)
        int far(int,int)
        int say(int,int,int)
        int teach(int,int)
        int forget(int,int)
        int change(int,int)
        int undo()
        int hearers(int,int)
        int safe(int,int)
        int seating(int,int,int,boolean,boolean)
        int keepFrom(int,int)
        int learn(int,int)
        int judge(int,int)
        int share(int,boolean)
        int see(int,int)
        int unsee()
        int minds(int)
        int rests(int)
        int deaf(int,int,int,int,boolean)
        long seed(long)
        int evenings(int)
        int keep(int)
        int again(int)
        """;

    public static void main(String[] args) throws IOException, ReflectiveOperationException {
        face();
        constants();
        members();
        words(source());
        CHECKS.run(LanguageTest.class);
        CHECKS.end("LanguageTest");
    }

    private static String source() throws IOException {
        return Files.readString(PROGRAM, StandardCharsets.ISO_8859_1);
    }

    @Says({
        "Terms 4: Ahead of the calls `write`, `wipe`, `fault`, `table`, `about`, `person`, `far` the interface says: "
            + "---- the table.",
        "Terms 4: Ahead of the calls `say`, `teach`, `forget`, `change`, `undo` the interface says: ---- acts.",
        "Terms 4: Ahead of the calls `hearers`, `safe`, `seating`, `keepFrom`, `learn`, `judge`, `share` the interface "
            + "says: ---- who hears, who knows.",
        "Terms 4: Ahead of the calls `see`, `unsee`, `minds` the interface says: ---- minds.",
        "Terms 4: Ahead of the calls `rests`, `deaf`, `seed`, `evenings` the interface says: ---- rests, chances.",
        "Terms 4: Ahead of the calls `keep`, `again` the interface says: ---- slots."})
    static void whatTheInterfaceSays() throws IOException {
        StringBuilder found = new StringBuilder();
        Matcher line = Pattern.compile("(?m)^    // (---- .*)$|^    public (?:int|long) (\\w+)\\(").matcher(source());
        while (line.find()) {
            found.append(line.group(1) == null ? line.group(2) : line.group(1)).append('\n');
        }
        holds("ahead of the calls", found.toString().startsWith("""
            ---- the table
            write
            wipe
            fault
            table
            about
            person
            far
            ---- acts
            say
            teach
            forget
            change
            undo
            ---- who hears, who knows
            hearers
            safe
            seating
            keepFrom
            learn
            judge
            share
            ---- minds
            see
            unsee
            minds
            ---- rests, chances
            rests
            deaf
            seed
            evenings
            ---- slots
            keep
            again
            """));
    }

    private static void holds(String rule, boolean it) {
        CHECKS.due(rule, it ? 1 : 0, 1);
    }

    private static void face() {
        Set<String> found = new TreeSet<>();
        for (Method method : KnowsBetter.class.getDeclaredMethods()) {
            if (!Modifier.isPrivate(method.getModifiers())) {
                String parameters = Arrays.toString(
                    Arrays.stream(method.getParameterTypes()).map(Class::getName).toArray());
                found.add(method.getReturnType() + " " + method.getName()
                    + parameters.replace(" ", "").replace('[', '(').replace(']', ')'));
                holds(method + " is public and no more", method.getModifiers() == Modifier.PUBLIC);
            }
        }
        holds("methods " + found, found.equals(new TreeSet<>(FACE.lines().toList())));
        holds("a constructor", KnowsBetter.class.getConstructors().length == 1
            && KnowsBetter.class.getDeclaredConstructors().length == 1);
        holds("public and final", KnowsBetter.class.getModifiers() == (Modifier.PUBLIC | Modifier.FINAL));
    }

    private static void constants() {
        CHECKS.due("UNKNOWN", KnowsBetter.UNKNOWN, -1);
        CHECKS.due("BAD", KnowsBetter.BAD, -2);
        CHECKS.due("LATE", KnowsBetter.LATE, -3);
        CHECKS.due("FULL", KnowsBetter.FULL, -4);
        CHECKS.due("NONE", KnowsBetter.NONE, -9);
        CHECKS.due("public constants", KnowsBetter.class.getFields().length, 5);
    }

    private static void members() {
        Set<String> faceNames = new TreeSet<>();
        for (Method method : KnowsBetter.class.getMethods()) {
            faceNames.add(method.getName());
        }
        for (Field field : KnowsBetter.class.getDeclaredFields()) {
            holds(field + " is public or private", !isBetween(field));
        }
        for (Method method : KnowsBetter.class.getDeclaredMethods()) {
            holds("rule 1: " + method, !Modifier.isPrivate(method.getModifiers())
                || !faceNames.contains(method.getName()));
        }
        Class<?>[] inside = KnowsBetter.class.getDeclaredClasses();
        holds("rule 11: classes", inside.length <= 11);
        fields(KnowsBetter.class);
        for (Class<?> one : inside) {
            holds("rule 2: " + one, Modifier.isStatic(one.getModifiers()) && !Modifier.isPublic(one.getModifiers()));
            fields(one);
        }
    }

    private static boolean isBetween(Member member) {
        return !Modifier.isPublic(member.getModifiers()) && !Modifier.isPrivate(member.getModifiers());
    }

    private static void fields(Class<?> one) {
        int count = 0;
        for (Field field : one.getDeclaredFields()) {
            if (Modifier.isStatic(field.getModifiers())) {
                holds("rule 5: " + field, Modifier.isFinal(field.getModifiers()));
            } else {
                count++;
            }
        }
        holds("rule 11: fields of " + one, count <= 20);
        for (Method method : one.getDeclaredMethods()) {
            holds("rule 11: " + method, method.getParameterCount() <= 7);
        }
    }

    private static void words(String source) {
        holds("only signs 1 to 127", source.chars().allMatch(sign -> sign > 0 && sign < 128));
        String code = source.replaceAll("(?s)/\\*.*?\\*/", " ").replaceAll("//[^\n]*", " ");
        String[] forbidden = {"throw", "throws", "try", "catch", "synchronized", "assert", "package", "import",
            "protected", "volatile", "record", "yield", "var", "equals", "hashCode", "toString", "Object", "Thread",
            "while", "System", "native", "transient", "strictfp", "double", "float"};
        for (String word : forbidden) {
            holds("no '" + word + "'", !Pattern.compile("\\b" + word + "\\b").matcher(code).find());
        }
        String[] signs = {"->", "::", "Exact", "\"", "@"};
        for (String sign : signs) {
            holds("no " + sign, !code.contains(sign));
        }
        Matcher library = Pattern.compile("\\b(Math|Integer|Long|Arrays|List|String\\w*)\\.\\w+").matcher(code);
        while (library.find()) {
            holds("rule 4: " + library.group(), LIBRARY.contains(library.group()));
        }
        Matcher loop = Pattern.compile("\\bfor \\((.*)\\) \\{|\\b(for|do)\\b").matcher(code);
        while (loop.find()) {
            boolean counts = loop.group(1) != null
                && loop.group(1).matches("int (\\w+) = .+; \\1 <=? .+; \\1(\\+\\+| \\+= PART_BYTES)");
            holds("rule 9: counts up to a bound: " + loop.group(), counts);
        }
        holds("rule 7: an index is used in Row alone", code.replaceAll("cells\\[place\\]", "").chars()
            .filter(sign -> sign == '[').count() == 2);
        Matcher made = Pattern.compile("\\bnew\\s+(\\w+)").matcher(code);
        while (made.find()) {
            String line = code.substring(code.lastIndexOf('\n', made.start()) + 1, made.start());
            boolean kept = line.matches("\\s*(private final \\w+ \\w+|\\w+|Table shared) = ");
            holds("made in constructors alone: " + line + made.group(), kept);
        }
    }
}

import java.io.DataInputStream;
import java.io.IOException;
import java.lang.reflect.Field;
import java.lang.reflect.Member;
import java.lang.reflect.Method;
import java.lang.reflect.Modifier;
import java.nio.file.Files;
import java.nio.file.Path;
import java.util.ArrayList;
import java.util.Arrays;
import java.util.List;
import java.util.Map;
import java.util.Set;
import java.util.TreeMap;
import java.util.TreeSet;
import java.util.regex.Matcher;
import java.util.regex.Pattern;

/** The rules of LANGUAGE.md that can be read off the class's text and its compiled form. */
public final class LanguageTest {
    private static final Path SOURCE = Path.of("src/main/java/LiquidChecker.java");

    private static final int GREATEST_PARAMETERS = 7;
    private static final int GREATEST_LINES = 60;
    private static final int GREATEST_DEPTH = 8;
    private static final int GREATEST_CLASSES = 12;
    private static final int GREATEST_FIELDS = 20;

    /** What the class uses of the library; a new row here is held against rules 4 and 6 first. */
    private static final Set<String> LIBRARY = new TreeSet<>(Arrays.asList(
            "java/lang/Object.<init>",
            "java/lang/ArithmeticException.<init>",
            "java/lang/IllegalArgumentException.<init>",
            "java/lang/IllegalStateException.<init>",
            "java/lang/UnsupportedOperationException.<init>",
            "java/util/NoSuchElementException.<init>",
            "java/lang/Math.max",
            "java/lang/System.arraycopy",
            "java/util/Arrays.fill"));
    private static final Pattern IMPORT = Pattern.compile("^import (.*);$", Pattern.MULTILINE);
    private static final Set<String> IMPORTS =
            new TreeSet<>(Arrays.asList("java.util.Arrays", "java.util.NoSuchElementException"));

    private static final Pattern FORBIDDEN = Pattern.compile(
            "\\b(try|catch|finally|assert|synchronized|package|instanceof|yield|var|toString|hashCode|equals)\\b"
                    + "|->|::|\\bstatic \\{|Exact\\b");
    /** Of the library's classes rule 4 lists functions, not constants such as Integer.MAX_VALUE. */
    private static final Pattern LIBRARY_CONSTANT =
            Pattern.compile("\\b(Integer|Long|Math|Arrays|System|Character|Short|Byte)\\.\\w+\\b(?!\\()");
    private static final Pattern THROW = Pattern.compile("\\bthrow\\b");
    private static final Pattern PLAIN_THROW = Pattern.compile("\\bthrow new \\w+\\((\"\")?\\);");
    private static final Pattern MADE = Pattern.compile("(?<!throw )\\bnew \\w+");
    private static final Pattern HEAD = Pattern.compile(
            "^( +)(?:public |private )(?:static )?(?:\\w+(?:\\[\\])* )?(\\w+)\\([^)]*\\)(?:\\s+throws [\\w, ]+)? \\{$",
            Pattern.MULTILINE);
    private static final Pattern CALLED = Pattern.compile("(?<!new )\\b(\\w+)\\(");

    private static int held = 0;
    private static int wrong = 0;

    private static void hold(boolean holds, String what) {
        held++;
        if (!holds) {
            wrong++;
            System.out.println("does not hold: " + what);
        }
    }

    private static List<Class<?>> classes() {
        List<Class<?>> all = new ArrayList<>();
        all.add(LiquidChecker.class);
        for (int i = 0; i < all.size(); i++) {
            all.addAll(Arrays.asList(all.get(i).getDeclaredClasses()));
        }
        return all;
    }

    private static void membersInside() {
        Set<String> face = new TreeSet<>();
        for (Method method : LiquidChecker.class.getMethods()) {
            face.add(method.getName());
        }
        for (Class<?> inner : classes()) {
            if (inner != LiquidChecker.class) {
                List<Member> members = new ArrayList<>(Arrays.asList(inner.getDeclaredMethods()));
                members.addAll(Arrays.asList(inner.getDeclaredFields()));
                members.addAll(Arrays.asList(inner.getDeclaredConstructors()));
                for (Member member : members) {
                    hold(Modifier.isPrivate(member.getModifiers()), "rule 1: private " + member);
                }
                for (Method method : inner.getDeclaredMethods()) {
                    hold(!face.contains(method.getName()), "rule 1: bears a public method's name: " + method);
                }
            }
        }
    }

    private static boolean isOfTheLanguage(Class<?> type) {
        Class<?> part = type.isArray() ? type.getComponentType() : type;
        return part.isPrimitive() || part == String.class || classes().contains(part);
    }

    private static void types() {
        for (Class<?> one : classes()) {
            for (Field field : one.getDeclaredFields()) {
                hold(isOfTheLanguage(field.getType()), "rule 3: the type of " + field);
                hold(!Modifier.isStatic(field.getModifiers()) || Modifier.isFinal(field.getModifiers())
                        && !field.getType().isArray() && isOfTheLanguage(field.getType())
                        && !classes().contains(field.getType()), "rule 5: a constant " + field);
            }
            for (Method method : one.getDeclaredMethods()) {
                hold(isOfTheLanguage(method.getReturnType()), "rule 3: the answer of " + method);
                for (Class<?> type : method.getParameterTypes()) {
                    hold(isOfTheLanguage(type), "rule 3: the parameters of " + method);
                }
            }
        }
    }

    private static void sizes() {
        hold(classes().size() <= GREATEST_CLASSES, "rule 11: classes " + classes().size());
        for (Class<?> one : classes()) {
            int fields = 0;
            for (Field field : one.getDeclaredFields()) {
                fields += Modifier.isStatic(field.getModifiers()) ? 0 : 1;
            }
            hold(fields <= GREATEST_FIELDS, "rule 11: fields of " + one);
            for (Method method : one.getDeclaredMethods()) {
                hold(method.getParameterCount() <= GREATEST_PARAMETERS, "rule 11: parameters of " + method);
            }
        }
    }

    /** Without comments and with empty texts, line for line. */
    private static String bare(String source) {
        Matcher comment = Pattern.compile("/\\*.*?\\*/|//[^\n]*|\"(\\\\.|[^\"\\\\])*\"", Pattern.DOTALL).matcher(source);
        return comment.replaceAll(found -> found.group().startsWith("\"") ? "\"\"" : found.group().replaceAll("[^\n]", ""));
    }

    private static void words(String text) {
        Matcher imported = IMPORT.matcher(text);
        while (imported.find()) {
            hold(IMPORTS.contains(imported.group(1)), "rule 4: import " + imported.group(1));
        }
        String forbidden = first(FORBIDDEN, text);
        hold(forbidden.isEmpty(), "rules 2 to 6: a word that they leave out: " + forbidden);
        String constant = first(LIBRARY_CONSTANT, IMPORT.matcher(text).replaceAll(""));
        hold(constant.isEmpty(), "rule 4: a constant of the library: " + constant);
        hold(THROW.matcher(text).results().count() == PLAIN_THROW.matcher(text).results().count(),
                "rule 6: every throw makes its exception, with a written text");
    }

    private static String first(Pattern pattern, String text) {
        Matcher matcher = pattern.matcher(text);
        return matcher.find() ? matcher.group() : "";
    }

    /** The bodies of all methods, by name; constructors are left out, as rows are made there. */
    private static Map<String, String> bodies(String text) {
        Map<String, String> bodies = new TreeMap<>();
        Matcher head = HEAD.matcher(text);
        while (head.find()) {
            int end = text.indexOf("\n" + head.group(1) + "}", head.end());
            String body = text.substring(head.end(), end);
            hold(body.split("\n", -1).length <= GREATEST_LINES, "rule 11: lines of " + head.group(2));
            if (Character.isLowerCase(head.group(2).charAt(0))) {
                bodies.merge(head.group(2), body, String::concat);
            }
        }
        return bodies;
    }

    /** How many calls stand open at once, at most; methods of one name count as one. */
    private static int depth(String name, Map<String, String> bodies, int above) {
        if (above > GREATEST_DEPTH) {
            return above;
        }
        int deepest = above;
        Matcher called = CALLED.matcher(bodies.get(name));
        while (called.find()) {
            if (bodies.containsKey(called.group(1))) {
                deepest = Math.max(deepest, depth(called.group(1), bodies, above + 1));
            }
        }
        return deepest;
    }

    private static void methods(String text) {
        Map<String, String> bodies = bodies(text);
        Set<String> declared = new TreeSet<>();
        for (Class<?> one : classes()) {
            for (Method method : one.getDeclaredMethods()) {
                declared.add(method.getName());
            }
        }
        hold(bodies.keySet().equals(declared), "this test reads every method: " + bodies.keySet());
        for (String name : bodies.keySet()) {
            hold(!MADE.matcher(bodies.get(name)).find(), "no call makes objects, but " + name + " does");
            hold(depth(name, bodies, 1) <= GREATEST_DEPTH, "rules 8 and 11: calls stay flat below " + name);
        }
    }

    /** What the compiled class calls and reads outside of itself, as its table of constants tells. */
    private static void library(Class<?> one) throws IOException {
        String file = one.getName() + ".class";
        try (DataInputStream in = new DataInputStream(LiquidChecker.class.getResourceAsStream(file))) {
            in.readInt();
            in.readInt();
            int size = in.readUnsignedShort();
            String[] texts = new String[size];
            int[][] parts = new int[size][];
            boolean[] isMember = new boolean[size];
            for (int i = 1; i < size; i++) {
                int tag = in.readUnsignedByte();
                switch (tag) {
                    case 1 -> texts[i] = in.readUTF();
                    case 3, 4 -> in.readInt();
                    case 5, 6 -> {
                        in.readLong();
                        i++;
                    }
                    case 7, 8, 16, 19, 20 -> parts[i] = new int[] {in.readUnsignedShort()};
                    case 9, 10, 11, 12, 17, 18 -> {
                        parts[i] = new int[] {in.readUnsignedShort(), in.readUnsignedShort()};
                        isMember[i] = tag <= 11;
                    }
                    default -> throw new IOException("unknown constant " + tag + " in " + file);
                }
            }
            for (int i = 1; i < size; i++) {
                if (isMember[i]) {
                    String owner = texts[parts[parts[i][0]][0]];
                    String member = owner + "." + texts[parts[parts[i][1]][0]];
                    hold(owner.startsWith("LiquidChecker") || LIBRARY.contains(member), "rule 4: uses " + member);
                }
            }
        }
    }

    public static void main(String[] args) throws IOException {
        String source = Files.readString(SOURCE);
        hold(source.chars().allMatch(letter -> letter <= 255), "rule 3: texts hold characters 0 to 255 alone");
        String text = bare(source);
        membersInside();
        types();
        sizes();
        words(text);
        methods(text);
        for (Class<?> one : classes()) {
            library(one);
        }
        System.out.println(held + " things looked at"
                + (wrong == 0 ? ", all within the rules" : ", " + wrong + " of them outside the rules"));
        if (wrong != 0) {
            System.exit(1);
        }
    }
}

import java.io.IOException;
import java.lang.reflect.Constructor;
import java.lang.reflect.Field;
import java.lang.reflect.Method;
import java.lang.reflect.Modifier;
import java.nio.file.Files;
import java.nio.file.Path;
import java.util.ArrayList;
import java.util.Arrays;
import java.util.Collections;
import java.util.List;
import java.util.Set;
import java.util.TreeSet;
import java.util.regex.Matcher;
import java.util.regex.Pattern;

/** The public face as DOC.md has it, and those rules of LANGUAGE.md that can be told from outside. */
public final class RulesTest {
    private static final String[] FACE = {
        "boolean end(int)", "boolean lay(int,int,int)", "boolean take(int)", "int bit(int)", "int cell(int,int,int)",
        "int feed(int,int,int,int,int)", "int fibre(int,boolean,int,int)", "int hole(int,int)", "int join(int,int)",
        "int joins(int)", "int known()", "int letter(int,int,int)", "int place(int,int)", "int read(int,int,int)",
        "int roll(int,int)", "int sheet(int,int)", "int standing(int,int)", "int stands(int,int)", "int stood(int)",
        "int whose(int,int)", "int width(int,int,int)", "int word()", "int words(int,int)", "int worth()",
    };
    private static final String WORDS_RULED_OUT =
            "throw|throws|try|catch|synchronized|assert|package|native|volatile|transient|strictfp";
    /** What rule 4 lists of the library's static functions; of Math, Integer and Long those without Exact. */
    private static final String STATIC_FUNCTIONS =
            "System\\.arraycopy|Arrays\\.(copyOf|copyOfRange|fill)|List\\.of|(Math|Integer|Long)\\.[a-z]\\w*";
    private static final String IMPORTS = "java\\.util\\.(ArrayList|Arrays|Iterator|List)";
    private static final Due due = new Due("rules");

    public static void main(String[] args) throws IOException {
        face();
        nested();
        String source = Files.readString(Path.of("src/main/java/TornReeds.java"));
        source(source);
        methodsAreShort(source);
        faceOfTheDocument();
        due.close();
    }

    /** The face above is the document's: what stands in its block, and at the head of each promise. */
    private static void faceOfTheDocument() throws IOException {
        Path document = Path.of("../shared/DOC.md");
        if (!Files.exists(document)) {
            System.out.println("there is no " + document + " to compare the face with");
            return;
        }
        List<String> block = new ArrayList<>();
        List<String> promises = new ArrayList<>();
        for (String line : Files.readAllLines(document)) {
            Matcher m = Pattern.compile("(    public |`)((?:int|boolean) \\w+\\([^)]*\\))[;`].*").matcher(line);
            if (m.matches()) {
                String bare = m.group(2).replaceAll("(int|boolean) \\w+(?=[,)])", "$1").replace(", ", ",");
                (m.group(1).equals("`") ? promises : block).add(bare);
            }
        }
        Collections.sort(block);
        Collections.sort(promises);
        due.holds("1: the document's face is " + block, block.equals(Arrays.asList(FACE)));
        due.holds("1: the document's promises are of " + promises, promises.equals(Arrays.asList(FACE)));
    }

    private static void face() {
        Class<?> c = TornReeds.class;
        due.is("1: public and final", c.getModifiers(), Modifier.PUBLIC | Modifier.FINAL);
        List<String> seen = new ArrayList<>();
        Set<String> names = new TreeSet<>();
        for (Method m : c.getDeclaredMethods()) {
            if (!Modifier.isPrivate(m.getModifiers())) {
                due.is("1: public and no more: " + m, m.getModifiers(), Modifier.PUBLIC);
                String parameters = m.toString().replaceAll(".*\\((.*)\\).*", "$1");
                seen.add(m.getReturnType() + " " + m.getName() + "(" + parameters + ")");
                names.add(m.getName());
            }
        }
        Collections.sort(seen);
        due.is("1: the face is " + seen, seen.equals(Arrays.asList(FACE)), true);
        due.is("1: one constructor", c.getDeclaredConstructors().length, 1);
        for (Constructor<?> made : c.getDeclaredConstructors()) {
            due.is("1: a public one", made.getModifiers(), Modifier.PUBLIC);
            due.is("1: without parameters", made.getParameterCount(), 0);
        }
        for (Field f : c.getDeclaredFields()) {
            if (!Modifier.isPrivate(f.getModifiers())) {
                due.is("1: a constant of the document: " + f, f.getName().equals("NONE"), true);
            }
        }
        for (Class<?> inside : withInside()) {
            for (Method m : inside.getDeclaredMethods()) {
                boolean own = !Modifier.isPublic(m.getModifiers()) && names.contains(m.getName());
                due.is("1: no other method bears the name of a public one: " + m, own, false);
            }
        }
    }

    private static List<Class<?>> withInside() {
        List<Class<?>> classes = new ArrayList<>(Arrays.asList(TornReeds.class.getDeclaredClasses()));
        classes.add(TornReeds.class);
        return classes;
    }

    private static void nested() {
        due.is("11: at most twelve classes", withInside().size() <= 12, true);
        for (Class<?> c : withInside()) {
            if (c != TornReeds.class) {
                due.is("2: static: " + c, Modifier.isStatic(c.getModifiers()), true);
                due.is("1: not public: " + c, Modifier.isPublic(c.getModifiers()), false);
                due.is("2: with no class inside: " + c, c.getDeclaredClasses().length, 0);
            }
            int fields = 0;
            for (Field f : c.getDeclaredFields()) {
                fields += Modifier.isStatic(f.getModifiers()) ? 0 : 1;
                boolean still = !Modifier.isStatic(f.getModifiers()) || Modifier.isFinal(f.getModifiers());
                due.is("5: a static field is final: " + f, still, true);
            }
            due.is("11: at most twenty fields: " + c, fields <= 20, true);
            for (Method m : c.getDeclaredMethods()) {
                due.is("11: at most seven parameters: " + m, m.getParameterCount() <= 7, true);
            }
        }
    }

    /** The source without comments, texts and signs. */
    private static String bare(String source) {
        return source.replaceAll("(?s)/\\*.*?\\*/", "").replaceAll("//.*", "")
                .replaceAll("'(\\\\.|[^'\\\\])'", "' '").replaceAll("\"(\\\\.|[^\"\\\\])*\"", "\"\"");
    }

    private static void source(String source) {
        String bare = bare(source);
        // An arrow of a switch is no lambda's.
        String arrowless = bare.replaceAll("(case [^;{}>]*|default *)->", "");
        Matcher word = Pattern.compile("\\b(" + WORDS_RULED_OUT + ")\\b|\\w+Exact\\b|->|::|@(?!Override\\b)\\w+")
                .matcher(arrowless);
        while (word.find()) {
            due.is("2, 4, 6: not in this Java: " + word.group(), 1, 0);
        }
        Matcher imported = Pattern.compile("import (.*);").matcher(bare);
        while (imported.find()) {
            due.is("4: may be imported: " + imported.group(1), imported.group(1).matches(IMPORTS), true);
        }
        for (char sign : source.toCharArray()) {
            if (sign > 126 || sign < 32 && sign != '\n') {
                due.is("4: a sign of the source", sign, 0);
            }
        }
        Matcher library = Pattern.compile("\\b(Math|System|Arrays|Integer|Long|String|Object|List)\\.(\\w+)").matcher(bare);
        while (library.find()) {
            due.is("4: of the library: " + library.group(), library.group().matches(STATIC_FUNCTIONS)
                    || library.group().matches("(Integer|Long)\\.M[AI][XN]_VALUE"), true);
        }
    }

    private static void methodsAreShort(String source) {
        String[] lines = source.split("\n");
        int opened = -1;
        for (int i = 0; i < lines.length; i++) {
            if (lines[i].matches("(    |        )[^ ].*\\) \\{") && !lines[i].contains(" class ")
                    && !lines[i].matches(" *(if|for|while|else).*")) {
                opened = i;
            } else if (opened >= 0 && lines[i].matches("(    |        )\\}")
                    && lines[i].indexOf('}') == lines[opened].length() - lines[opened].stripLeading().length()) {
                due.is("11: at most sixty lines from line " + opened, i - opened < 60, true);
                opened = -1;
            }
        }
    }
}

import java.io.IOException;
import java.nio.file.Files;
import java.nio.file.Path;
import java.util.ArrayList;
import java.util.HashSet;
import java.util.List;
import java.util.Set;
import java.util.TreeSet;
import java.util.regex.Matcher;
import java.util.regex.Pattern;

/** The rules of LANGUAGE.md that can be seen from the class's text, each by its number. */
public final class LanguageTest {
    private static final Path FILE = Path.of("src", "main", "java", "Doublecoat.java");
    private static final int MOST_PARAMETERS = 7;
    private static final int MOST_LINES = 60;
    private static final int MOST_DEPTH = 8;
    private static final int MOST_CLASSES = 12;
    private static final int MOST_FIELDS = 20;

    private static final String EXCEPTIONS = "IllegalStateException|IllegalArgumentException|IndexOutOfBoundsException"
            + "|ArithmeticException|UnsupportedOperationException|NoSuchElementException|RuntimeException";
    private static final String LIBRARY = "String|StringBuilder|ArrayList|List|Integer|Long|Math|Iterator|Iterable"
            + "|Comparable|System|Arrays|" + EXCEPTIONS;
    private static final String STATIC_CALLS = "(Math|Integer|Long)\\.(compare|max|min|abs|bitCount|floorDiv|floorMod)"
            + "|System\\.arraycopy|Arrays\\.(copyOf|copyOfRange|fill)|List\\.of";

    private final Check check = new Check("LanguageTest");
    private final String text;
    private final Source source;

    private LanguageTest(String text) {
        this.text = text;
        source = new Source(text);
    }

    public static void main(String[] args) throws IOException {
        LanguageTest test = new LanguageTest(Files.readString(FILE));
        test.takenApart();
        test.oneFileOneClass();
        test.classesInside();
        test.texts();
        test.library();
        test.staticFields();
        test.exceptions();
        test.recursion();
        test.words();
        test.sizes();
        test.depths();
        test.check.end();
    }

    /** Each sentence that follows is empty by this only if there was something to look at. */
    private void takenApart() {
        check.due("classes are found", true, () -> source.classes.size() > 1);
        check.due("fields are found", true, () -> source.fields.size() > 1);
        check.due("methods are found", true, () -> source.methods.size() > Doublecoat.class.getMethods().length);
        check.due("what is neither a class, a field nor a method", "[]", () -> source.others.toString());
    }

    private void none(String rule, List<?> found) {
        check.due(rule, "[]", () -> found.toString());
    }

    /** All places of the code, without texts and comments, that are like this. */
    private List<String> found(String like) {
        List<String> all = new ArrayList<>();
        Matcher places = Pattern.compile(like).matcher(source.code);
        while (places.find()) all.add(places.group());
        return all;
    }

    // ---- the rules

    private void oneFileOneClass() {
        none("before rule 1: one file without a package, and no library beside it", found("\\b(package|import)\\b"));
        check.due("rule 1: the class comes first", "public final class Doublecoat", () -> source.classHeads.get(0));
        Set<String> face = new HashSet<>();
        for (Source.Method method : source.methods) {
            if (method.head.startsWith("public ")) face.add(method.name);
        }
        List<String> alike = new ArrayList<>();
        for (Source.Method method : source.methods) {
            if (!method.head.startsWith("public ") && face.contains(method.name)) alike.add(method.toString());
        }
        none("rule 1: no other method bears the name of a public one", alike);
    }

    private void classesInside() {
        List<String> open = new ArrayList<>(source.classHeads.subList(1, source.classHeads.size()));
        open.removeIf(head -> head.startsWith("private static final class "));
        none("rules 1 and 2: classes inside are private and static", open);
        none("rule 2: no lambda, no method reference", found("->|::"));
    }

    private void texts() {
        List<Character> far = new ArrayList<>();
        for (char sign : text.toCharArray()) {
            if (sign > 127) far.add(sign);
        }
        none("rule 4: signs are 1 to 127", far);
        none("rule 10: texts are not joined by +", found("\"\" *\\+|\\+=? *\"\""));
    }

    private void library() {
        Set<String> names = new TreeSet<>(found("\\b[A-Z]\\w*[a-z]\\w*\\b"));
        names.removeAll(source.classes);
        names.removeIf(name -> name.matches(LIBRARY));
        none("rules 3 and 4: no other library", new ArrayList<>(names));
        List<String> calls = found("\\b[A-Z]\\w*[a-z]\\w*\\.\\w+");
        calls.removeIf(call -> call.matches(STATIC_CALLS));
        none("rule 4: no other function of it", calls);
        none("rules 4 and 6: none of these", found("\\.(equals|hashCode|getMessage|getClass|stream|format|valueOf)\\b"));
        none("rule 3: no NaN can come of it", found("\\b(double|float)\\b"));
    }

    private void staticFields() {
        List<String> wrong = new ArrayList<>();
        for (Source.Field field : source.fields) {
            if (field.isStatic() && !field.text.matches("private static final (int|long|boolean|char|String) \\w+ = .*")) {
                wrong.add(field.text);
            }
        }
        none("rule 5: static fields are constants", wrong);
    }

    private void exceptions() {
        List<String> thrown = found("\\bthrow\\b[^;]*;");
        check.due("rule 6: what is thrown is found", true, () -> !thrown.isEmpty());
        thrown.removeIf(one -> one.matches("throw new (" + EXCEPTIONS + ")\\((\"\")?\\);"));
        none("rule 6: what is thrown is new and says a written text", thrown);
        List<String> made = new ArrayList<>();
        for (Source.Method method : source.methods) {
            if (method.isConstructor() && method.body.matches("(?s).*\\bthrow\\b.*")) made.add(method.toString());
        }
        none("rule 6: no constructor throws", made);
        none("rule 6: nothing is caught, so that nothing that the machine throws is", found("\\b(try|catch|finally)\\b"));
    }

    private void recursion() {
        List<String> unguarded = new ArrayList<>();
        for (Source.Method method : source.methods) {
            if (!called(method).contains(method)) continue;
            if (!method.head.startsWith("private static ") || !method.head.contains("int depth")) {
                unguarded.add(method.toString());
            }
        }
        none("rule 8: what calls itself is private and static, and carries its depth", unguarded);
    }

    private void words() {
        none("rules 2, 6, 12 and 13: no such words", found("\\b(synchronized|assert|volatile|native|transient|yield|var)\\b|@"));
        none("rule 9: every loop has its end in its own line", found("while *\\(true\\)|for *\\(;|; *;"));
    }

    private void sizes() {
        List<String> large = new ArrayList<>();
        for (Source.Method method : source.methods) {
            if (method.parameters() > MOST_PARAMETERS || method.lines() > MOST_LINES) large.add(method.toString());
        }
        for (String owner : source.classes) {
            long fields = source.fields.stream().filter(field -> field.owner.equals(owner) && !field.isStatic()).count();
            if (fields > MOST_FIELDS) large.add(owner);
        }
        none("rule 11: few parameters and fields, short methods", large);
        check.due("rule 11: few classes", true, () -> source.classes.size() <= MOST_CLASSES);
    }

    private void depths() {
        List<String> deep = new ArrayList<>();
        int deepest = 0;
        for (Source.Method method : source.methods) {
            int depth = depth(method, new HashSet<>());
            deepest = Math.max(deepest, depth);
            if (depth > MOST_DEPTH) deep.add(method.toString() + " " + depth);
        }
        none("rule 11: calls go eight deep at most", deep);
        int most = deepest;
        check.due("rule 11: calls are found", true, () -> most > 2);
    }

    // ---- who calls whom

    /** How many calls stand open at most when this method is one of them; one that calls itself counts once. */
    private int depth(Source.Method method, Set<Source.Method> open) {
        if (!open.add(method)) return 0;
        int most = 0;
        for (Source.Method next : called(method)) most = Math.max(most, depth(next, open));
        open.remove(method);
        return 1 + most;
    }

    /** A call of a field's method goes to the class that has the field's name, any other one to the own or the outer class. */
    private List<Source.Method> called(Source.Method method) {
        List<Source.Method> all = new ArrayList<>();
        Matcher calls = Pattern.compile("(?:\\b(\\w+)\\.)?\\b(\\w+)\\(").matcher(method.body);
        while (calls.find()) {
            Source.Method next = calls.group(1) == null ? near(method.owner, calls.group(2))
                    : of(ownerOf(calls.group(1)), calls.group(2));
            if (next != null && !all.contains(next)) all.add(next);
        }
        return all;
    }

    private String ownerOf(String receiver) {
        for (String owner : source.classes) {
            if (owner.equalsIgnoreCase(receiver)) return owner;
        }
        return "";
    }

    private Source.Method near(String owner, String name) {
        Source.Method own = of(owner, name);
        return own != null ? own : of("Doublecoat", name);
    }

    private Source.Method of(String owner, String name) {
        for (Source.Method method : source.methods) {
            if (method.owner.equals(owner) && method.name.equals(name)) return method;
        }
        return null;
    }
}

import java.util.ArrayList;
import java.util.List;
import java.util.regex.Matcher;
import java.util.regex.Pattern;

/** The text of the class, taken apart into its classes, fields and methods. */
final class Source {
    static final class Method {
        final String owner;
        final String name;
        final String head;
        final String body;

        Method(String owner, String head, String body) {
            this.owner = owner;
            this.head = head;
            this.body = body;
            String before = head.substring(0, head.indexOf('(')).trim();
            name = before.substring(before.lastIndexOf(' ') + 1);
        }

        boolean isConstructor() {
            return name.equals(owner);
        }

        int parameters() {
            String list = head.substring(head.indexOf('(') + 1, head.indexOf(')')).trim();
            return list.isEmpty() ? 0 : list.split(",").length;
        }

        int lines() {
            return body.split("\n", -1).length;
        }

        @Override
        public String toString() {
            return owner + "." + name;
        }
    }

    static final class Field {
        final String owner;
        final String text;

        Field(String owner, String text) {
            this.owner = owner;
            this.text = text;
        }

        boolean isStatic() {
            return text.matches("(?s).*\\bstatic\\b.*");
        }
    }

    final List<String> classes = new ArrayList<>();
    final List<String> classHeads = new ArrayList<>();
    final List<Field> fields = new ArrayList<>();
    final List<Method> methods = new ArrayList<>();
    final List<String> others = new ArrayList<>();
    /** Without comments, and with nothing in its texts and signs. */
    final String code;
    private int at;

    Source(String text) {
        code = withoutTexts(text);
        members("");
    }

    private static String withoutTexts(String text) {
        Pattern parts = Pattern.compile("(?s)/\\*.*?\\*/|//[^\n]*|\"(\\\\.|[^\"\\\\])*\"|'(\\\\.|[^'\\\\])*'");
        Matcher found = parts.matcher(text);
        StringBuilder left = new StringBuilder();
        while (found.find()) {
            String part = found.group();
            String kept = part.startsWith("/") ? part.replaceAll("[^\n]", "") : part.startsWith("\"") ? "\"\"" : "' '";
            found.appendReplacement(left, Matcher.quoteReplacement(kept));
        }
        return found.appendTail(left).toString();
    }

    /** All members of one class, up to the brace that ends it. */
    private void members(String owner) {
        while (at < code.length()) {
            int start = at;
            while (at < code.length() && ";{}".indexOf(code.charAt(at)) < 0) at++;
            String head = code.substring(start, at).trim();
            char end = at < code.length() ? code.charAt(at) : '}';
            at++;
            if (end == '}') return;
            if (end == ';') {
                fields.add(new Field(owner, head));
            } else {
                braced(owner, head);
            }
        }
    }

    private void braced(String owner, String head) {
        Matcher kind = Pattern.compile("\\b(class|record|enum|interface) (\\w+)").matcher(head);
        if (kind.find()) {
            classes.add(kind.group(2));
            classHeads.add(head);
            members(kind.group(2));
        } else if (head.contains("=")) {
            body();
            at = code.indexOf(';', at) + 1;
            fields.add(new Field(owner, head));
        } else if (head.contains("(")) {
            methods.add(new Method(owner, head, body()));
        } else {
            others.add(owner + ": " + head);
            body();
        }
    }

    private String body() {
        int start = at;
        for (int depth = 1; depth > 0 && at < code.length(); at++) {
            if (code.charAt(at) == '{') depth++;
            if (code.charAt(at) == '}') depth--;
        }
        return code.substring(start, at - 1);
    }
}

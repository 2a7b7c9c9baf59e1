import java.io.IOException;
import java.nio.file.Files;
import java.nio.file.Path;
import java.util.HashSet;
import java.util.List;
import java.util.Set;
import java.util.regex.Matcher;
import java.util.regex.Pattern;

/** Those rules of LANGUAGE.md that the source's text shows. */
public final class LanguageTest {
    private static int wrong = 0;

    private static void fault(String what) {
        wrong++;
        System.out.println("LANGUAGE: " + what);
    }

    /** The source without comments and without what stands in quotes. */
    private static String bare(String source) {
        return source.replaceAll("(?s)/\\*.*?\\*/", " ").replaceAll("//[^\n]*", " ")
            .replaceAll("'(\\\\.|[^'\\\\])'", "' '").replaceAll("\"(\\\\.|[^\"\\\\])*\"", "\"\"");
    }

    private static void forbidWords(String code) {
        List<String> words = List.of("throw", "throws", "try", "catch", "finally", "synchronized", "assert", "package", "native",
            "volatile", "transient", "hashCode", "toString", "Object", "Thread", "System.out", "Random", "Exact", "var",
            "Math.random", "Collections", "Map", "Set", "instanceof", "protected");
        for (String word : words) {
            if (Pattern.compile("\\b" + Pattern.quote(word) + "\\b").matcher(code).find()) fault("the word " + word);
        }
        for (String sign : new String[] {"->", "::", "@"}) {
            if (code.contains(sign)) fault("the sign " + sign);
        }
        Matcher imports = Pattern.compile("import ([^;]*);").matcher(code);
        while (imports.find()) {
            if (!List.of("java.util.Arrays", "java.util.ArrayList", "java.util.List").contains(imports.group(1))) {
                fault("import " + imports.group(1));
            }
        }
        Matcher library = Pattern.compile("\\b(System|Arrays|Long|Integer|Math)\\.(\\w+)").matcher(code);
        while (library.find()) {
            if (!List.of("arraycopy", "fill", "bitCount", "min", "max").contains(library.group(2))) fault("the library's " + library.group());
        }
    }

    private static void checkStatics(String code) {
        Matcher m = Pattern.compile("(?m)^\\s*(?:private |public )?static [^(;={]*[;=]").matcher(code);
        while (m.find()) {
            if (!m.group().contains(" final ")) fault("a static field that is not final: " + m.group().trim());
        }
        if (Pattern.compile("\\bstatic\\s*\\{").matcher(code).find()) fault("a static initialiser");
    }

    private static void checkMethods(String[] lines) {
        Pattern head = Pattern.compile("^( {4}| {8})(?! )(.*?)\\b(\\w+)\\(([^)]*)\\) \\{$");
        Set<String> open = new HashSet<>();
        Set<String> hidden = new HashSet<>();
        int methods = 0;
        for (int i = 0; i < lines.length; i++) {
            Matcher m = head.matcher(lines[i]);
            if (!m.find() || m.group(3).matches("if|for|while|switch")) continue;
            methods++;
            int end = i;
            while (end < lines.length && !lines[end].equals(m.group(1) + "}")) end++;
            if (end - i > 60) fault("a method of " + (end - i) + " lines: " + m.group(3));
            if (!m.group(4).isEmpty() && m.group(4).split(",").length > 7) fault("parameters of " + m.group(3));
            if (m.group(1).length() == 4) {
                if (m.group(2).startsWith("public")) open.add(m.group(3));
                else if (m.group(2).startsWith("private")) hidden.add(m.group(3));
                else fault("neither public nor private: " + m.group(3));
            } else {
                hidden.add(m.group(3));
            }
        }
        if (methods < 60) fault("only " + methods + " methods were found to be checked");
        for (String name : hidden) {
            if (open.contains(name) && !name.equals("KitchenTouch")) fault("the name of a public method: " + name);
        }
    }

    private static void checkFace(String code, String document) {
        String face = document.substring(document.indexOf("public final class"), document.indexOf("## Terms"));
        Set<String> due = new HashSet<>();
        Matcher m = Pattern.compile("public (?!final class)[^;]*").matcher(face);
        while (m.find()) due.add(m.group());
        Set<String> got = new HashSet<>();
        m = Pattern.compile("(?m)^    public ([^{;=]*)").matcher(code);
        while (m.find()) got.add("public " + m.group(1).trim());
        if (!due.equals(got)) fault("the face is " + got + ", due is " + due);
    }

    public static void main(String[] args) throws IOException {
        String source = Files.readString(Path.of("src/main/java/KitchenTouch.java"));
        String code = bare(source);
        forbidWords(code);
        checkStatics(code);
        checkMethods(source.split("\n"));
        checkFace(code, Files.readString(Path.of("../shared/DOC.md")));
        for (int i = 0; i < source.length(); i++) {
            if (source.charAt(i) > 126) fault("a sign above 126 at " + i);
        }
        System.out.println("LanguageTest: " + wrong + " faults");
        if (wrong != 0) System.exit(1);
    }
}

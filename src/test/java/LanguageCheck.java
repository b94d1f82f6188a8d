import java.io.IOException;
import java.nio.file.Files;
import java.nio.file.Paths;
import java.util.Set;
import java.util.TreeSet;
import java.util.regex.Matcher;
import java.util.regex.Pattern;

/** What of ../shared/LANGUAGE.md can be told by looking at the text of the class. */
public final class LanguageCheck {
    private static final String[] FACE = {"feed", "desk", "fault", "count", "library", "work", "held", "lack", "order", "own",
        "promise", "keep", "room", "go", "give", "send", "carry", "years", "undo", "note", "fits", "look", "forget", "drawn",
        "image", "restore"};
    private static int wrong = 0;

    private static void no(String why, String pattern, String text) {
        Matcher m = Pattern.compile(pattern, Pattern.MULTILINE).matcher(text);
        while (m.find()) {
            wrong++;
            System.out.println(why + ": " + m.group().trim());
        }
    }

    public static void main(String[] args) throws IOException {
        String text = Files.readString(Paths.get("src/main/java/CopyKeeper.java"));
        no("a sign above 127", "[^\\x00-\\x7f]+", text);
        String code = text.replaceAll("(?s)/\\*.*?\\*/", "").replaceAll("//.*", "");
        no("a package", "^package.*", code);
        no("rule 2, 6: not allowed", "->|::|\\b(assert|synchronized|finally|try|catch|yield|native|volatile|protected|@)\\b", code);
        no("rule 4: not in the library that is allowed", "\\b(String\\.|Arrays|System\\.(?!arraycopy)|Exact\\w*\\(|Math\\.(?!max|min|abs)"
                + "|Integer\\.(?!bitCount)|hashCode|equals|toString)\\w*", code);
        no("rule 4: an import", "^import (?!java\\.util\\.NoSuchElementException;).*", code);
        no("rule 5: a static field that isn't final", "^ *(private |public )?static (?!final|int |boolean )\\S+.*;", code);
        no("rule 5: a static block", "static *\\{", code);
        no("rule 6: a throw with more than an exception", "throw (?!new \\w+\\(\\);).*", code);
        for (String name : FACE) {
            no("rule 1: a name of the face", "^ {4,}(private|static|final|int|boolean|long|void)[\\w\\[\\] ]* " + name + "\\((?!.*)", code);
            Matcher m = Pattern.compile("^ +(?:\\w+ )*\\w[\\w\\[\\]]* " + name + "\\([^;]*\\{", Pattern.MULTILINE).matcher(code);
            int many = 0;
            while (m.find()) many++;
            if (many != 1) {
                wrong++;
                System.out.println("rule 1: " + many + " methods bear the name " + name);
            }
        }
        Set<String> unseen = new TreeSet<>();
        Matcher fields = Pattern.compile("^    (?:public|protected) (.*[;{])$", Pattern.MULTILINE).matcher(code);
        int open = 0;
        while (fields.find()) {
            open++;
            unseen.add(fields.group(1));
        }
        if (open != FACE.length + 2) {
            wrong++;
            System.out.println("rule 1: not the document's face: " + unseen);
        }
        lengths(code);
        System.out.println(wrong == 0 ? "the language is kept, as far as this looks" : wrong + " breaches");
        if (wrong != 0) System.exit(1);
    }

    private static void lengths(String code) {
        int start = 0, classes = 0;
        String[] lines = code.split("\n");
        for (int i = 0; i < lines.length; i++) {
            if (lines[i].matches(".*\\bclass \\w+ \\{")) classes++;
            if (lines[i].matches("^( {4}| {8})[a-zA-Z].*\\) (throws .*)?\\{")) start = i;
            if (lines[i].matches("^( {4}| {8})\\}") && start > 0) {
                if (i - start > 60) {
                    wrong++;
                    System.out.println("rule 11: " + (i - start) + " lines: " + lines[start].trim());
                }
                start = 0;
            }
        }
        if (classes > 12) {
            wrong++;
            System.out.println("rule 11: " + classes + " classes");
        }
    }
}

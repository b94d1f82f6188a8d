import java.io.IOException;
import java.nio.file.Files;
import java.nio.file.Paths;

/** What README.md shows of the use: each line stands there, and answers what stands behind it. */
public final class ReadmeExample {
    private static final String[] FACE = {"feed", "desk", "fault", "count", "library", "work", "held", "lack", "order", "own",
        "promise", "keep", "room", "go", "give", "send", "carry", "years", "undo", "note", "fits", "look", "forget", "drawn",
        "image", "restore"};
    private static String readme;
    private static int shown = 0;
    private static int wrong = 0;

    private static void tell(String what) {
        wrong++;
        System.out.println(what);
    }

    private static void stands(String line) {
        if (!readme.contains(line)) tell("README.md hasn't: " + line);
    }

    private static void shows(String call, int got) {
        shown++;
        stands(" desk." + call + "; // " + got + ": ");
    }

    public static void main(String[] args) throws IOException {
        readme = Files.readString(Paths.get("README.md")).replaceAll("\\s+", " ");
        String first = "library 2 4; library 3; work 5 1; work 2 2; store 4;";
        String rest = "holds 0 0 3; holds 0 1 1; holds 1 0 2; holds 1 1 2; promise 1 0 1 5;";
        stands("Tape.feed(desk::feed, \"" + first + "\" + \"" + rest + "\");");
        CopyKeeper desk = new CopyKeeper();
        int bytes = Tape.feed(desk::feed, first + rest);
        shows("desk(bytes)", desk.desk(bytes));
        shows("count(6)", desk.count(6));
        shows("held(0, 0, 5)", desk.held(0, 0, 5));
        shows("held(1, 0, 6)", desk.held(1, 0, 6));
        shows("keep(1, 9)", desk.keep(1, 9));
        shows("count(16)", desk.count(16));
        shows("undo()", desk.undo());
        shows("carry()", desk.carry());
        shows("library(0, 2)", desk.library(0, 2));
        shows("go(0, 0)", desk.go(0, 0));
        int lines = readme.split(" desk\\.\\w+\\([^)]*\\); // ", -1).length - 1;
        if (lines != shown) tell("README.md shows " + lines + " calls, of which " + shown + " are made here");
        for (String name : FACE) stands("`" + name + "`");
        System.out.println(shown + " calls of README.md: " + (wrong == 0 ? "all are as it shows" : wrong + " faults"));
        if (wrong != 0) System.exit(1);
    }
}

import java.util.regex.Matcher;
import java.util.regex.Pattern;

/** A TEXT, read by one pattern for the TOKENS and a row of what may stand next. */
final class ModelText {
    final Model.World world = new Model.World();
    int fault;
    int place = Model.NONE;
    private boolean store;

    ModelText(String text) {
        Matcher m = Pattern.compile("[a-z]+|[0-9]+|[^ \n]", Pattern.DOTALL).matcher(text);
        String clause = "";
        int[] numbers = new int[4];
        int many = 0;
        while (m.find()) {
            String token = m.group();
            int found = clause.isEmpty() ? first(token) : next(clause, numbers, many, token);
            if (found != 0) {
                fault = found;
                place = m.start();
                return;
            }
            if (clause.isEmpty()) {
                clause = token;
                many = 0;
            } else if (token.equals(";")) {
                tell(clause, numbers, many);
                clause = "";
            } else {
                numbers[many++] = Integer.parseInt(token);
            }
        }
        if (!clause.isEmpty()) {
            fault = 1;
            place = text.length();
        }
    }

    private int first(String token) {
        switch (token) {
            case "library": return world.libraries == 5 ? 2 : 0;
            case "work": return world.works == 6 ? 2 : 0;
            case "store": {
                boolean again = store;
                store = true;
                return again ? 4 : 0;
            }
            case "holds": case "promise": return 0;
            default: return 1;
        }
    }

    /** Least and greatest of each number of a clause, and how many there must be. */
    private static int[][] form(String clause) {
        switch (clause) {
            case "library": return new int[][] {{1}, {0, 20}, {0, 20}};
            case "work": return new int[][] {{2}, {1, 9}, {0, 15}};
            case "holds": return new int[][] {{3}, {0, 4}, {0, 5}, {1, 3}};
            case "promise": return new int[][] {{4}, {0, 4}, {0, 5}, {1, 3}, {0, 60}};
            default: return new int[][] {{1}, {0, 20}};
        }
    }

    private int next(String clause, int[] numbers, int many, String token) {
        int[][] form = form(clause);
        if (token.equals(";")) return many < form[0][0] ? 1 : 0;
        if (!token.matches("[0-9]+") || many + 1 >= form.length) return 1;
        if (token.length() > 2) return 2;
        int n = Integer.parseInt(token);
        if (n < form[many + 1][0] || n > form[many + 1][1]) return 2;
        boolean holds = clause.equals("holds");
        if (holds || clause.equals("promise")) {
            if (many == 0 && n >= world.libraries || many == 1 && n >= world.works) return 3;
            if (many == 1 && (holds ? world.held : world.much)[numbers[0]][n] > 0) return 4;
        }
        return 0;
    }

    private void tell(String clause, int[] n, int many) {
        switch (clause) {
            case "library":
                world.room[world.libraries] = n[0];
                world.wish[world.libraries++] = many > 1 ? n[1] : 20;
                break;
            case "work":
                world.size[world.works] = n[0];
                world.keep[world.works++] = n[1];
                break;
            case "holds":
                world.held[n[0]][n[1]] = n[2];
                break;
            case "promise":
                world.much[n[0]][n[1]] = n[2];
                world.until[n[0]][n[1]] = n[3];
                break;
            default:
                world.storeRoom = n[0];
        }
    }
}

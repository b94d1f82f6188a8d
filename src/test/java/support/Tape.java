/** Makes texts, and feeds them. */
final class Tape {
    interface Feeder {
        int feed(int a, int b, int c, int d, int e);
    }

    private Tape() {
    }

    /** A clause of each LIBRARY and each WORK: the word, both of them, and what stands behind. */
    static String pairs(int libraries, int works, String word, String end) {
        StringBuilder all = new StringBuilder();
        for (int l = 0; l < libraries; l++) {
            for (int w = 0; w < works; w++) all.append(word).append(' ').append(l).append(' ').append(w).append(' ').append(end).append(';');
        }
        return all.toString();
    }

    /** Feeds a text, with blanks behind it up to twenty bytes; answers the text's length. */
    static int feed(Feeder to, String text) {
        StringBuilder all = new StringBuilder(text);
        while (all.length() % 20 != 0) all.append(' ');
        for (int at = 0; at < all.length(); at += 20) {
            int[] n = new int[5];
            for (int i = 0; i < 20; i++) n[i / 4] = n[i / 4] << 8 | all.charAt(at + i) & 255;
            to.feed(n[0], n[1], n[2], n[3], n[4]);
        }
        return text.length();
    }
}

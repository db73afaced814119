/** Counts the answers that are not the ones due; every test of the project ends by it. */
final class Due {
    private final String name;
    /** The document's sentence that is tried; empty where a test goes by calls, not by sentences. */
    private String sentence = "";
    private int sentences;
    private int asked;
    private int wrong;

    Due(String name) {
        this.name = name;
    }

    /** What is asked from here on tries these words of the document. */
    void sentence(String words) {
        sentence = " [" + words + "]";
        sentences++;
    }

    void is(String call, long got, long want) {
        asked++;
        if (got != want) {
            wrong++;
            System.out.println(name + sentence + ": " + call + " answered " + got + ", due is " + want);
        }
    }

    void end() {
        String of = sentences == 0 ? "" : sentences + " sentences, ";
        System.out.println(name + ": " + of + asked + " answers, " + wrong + " of them not as due");
        if (wrong != 0 || asked == 0) {
            System.exit(1);
        }
    }

    /** Where the class stands: as the test was told, else where it is from the project's own directory. */
    static String source(String[] args) {
        return args.length > 0 ? args[0] : "src/main/java/BothWrite.java";
    }

    /** Feeds a text, up to eight bytes a call; the answer of the last call. */
    static int feed(BothWrite x, String text) {
        int answer = 0;
        for (int from = 0; from < text.length(); from += 8) {
            int to = Math.min(from + 8, text.length());
            long bytes = 0;
            for (int i = from; i < to; i++) {
                bytes = bytes << 8 | text.charAt(i);
            }
            answer = x.feed(to - from, bytes);
        }
        return answer;
    }

    static BothWrite withNet(String text) {
        BothWrite x = new BothWrite();
        feed(x, text);
        if (x.net() < 0) {
            throw new IllegalArgumentException("a net with a fault: " + text);
        }
        return x;
    }
}

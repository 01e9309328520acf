/** What a test of edges says while it goes on: the sentence it stands for, and every answer that isn't the one due. */
abstract class Edges {
    static final int NONE = TunnelBook.NONE;
    static final int FREE = TunnelBook.FREE;
    static final int MIN = Integer.MIN_VALUE;
    static final int MAX = Integer.MAX_VALUE;
    private static int sentences = 0;
    private static int answers = 0;
    private static int wrong = 0;
    private static String sentence = "";

    Edges() {
    }

    /** The document's sentence that the next answers are about. */
    static void says(String words) {
        sentences++;
        sentence = words;
    }

    static void due(String call, long got, long want) {
        answers++;
        if (got != want) {
            wrong++;
            System.out.println("\"" + sentence + "\": " + call + " answered " + got + ", due is " + want);
        }
    }

    static void yes(String call, boolean got) {
        due(call, got ? 1 : 0, 1);
    }

    static void no(String call, boolean got) {
        due(call, got ? 1 : 0, 0);
    }

    static TunnelBook withStations(int more) {
        TunnelBook book = new TunnelBook();
        for (int i = 0; i < more; i++) {
            book.station();
        }
        return book;
    }

    static void finish(String name) {
        System.out.println(name + ": " + sentences + " sentences, " + answers + " answers, " + wrong + " wrong");
        System.exit(wrong == 0 && answers > 0 ? 0 : 1);
    }
}

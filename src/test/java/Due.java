/** Compares answers with those that are due, and counts what differs. */
final class Due {
    interface Call {
        int answer();
    }

    private int wrong = 0;
    private int asked = 0;
    private int sentences = 0;
    private String sentence = "";

    /** Tells the sentence of the document that the answers which follow are held against. */
    void says(String words) {
        sentences++;
        sentence = words;
    }

    void be(String call, long got, long want) {
        be(call, Long.toString(got), Long.toString(want));
    }

    void be(String call, String got, String want) {
        asked++;
        if (!got.equals(want)) {
            wrong++;
            System.out.println(call + " answered " + got + ", due is " + want
                    + (sentence.isEmpty() ? "" : " (" + sentence + ")"));
        }
    }

    void thrown(String call, Class<? extends RuntimeException> want, Call made) {
        String got = "nothing";
        try {
            made.answer();
        } catch (RuntimeException e) {
            got = e.getClass().getName();
        }
        be(call + " throws", got, want.getName());
    }

    void close(String test) {
        System.out.println(test + ": " + sentences + " sentences, " + asked + " answers, " + wrong + " wrong");
        if (wrong != 0 || asked == 0) {
            System.exit(1);
        }
    }
}

import java.util.NoSuchElementException;

/** A new object and wrong arguments: promises 1 to 11 where nothing was decoded. */
public final class FaceTest {
    private static int wrong = 0;

    private static void due(String call, long got, long want) {
        if (got != want) {
            wrong++;
            System.out.println(call + " answered " + got + ", due is " + want);
        }
    }

    public static void main(String[] args) {
        VideoDecoder x = new VideoDecoder();
        for (int context = 0; context < 4; context++) {
            for (int k = 0; k < 2941; k++) {
                due("model " + context + " " + k, x.model(context, k), 128);
            }
        }
        due("count 7", x.count(7), -1);
        due("count 8", x.count(8), -1);
        due("count -1", x.count(-1), -1);
        for (int what = 0; what < 7; what++) {
            due("count " + what, x.count(what), 0);
        }
        int full = 0;
        for (int i = 0; i < 3276; i++) {
            full = x.feed(i, -1, 0, 1, 2);
            due("feed", full, 20 * (i + 1));
        }
        boolean thrown = false;
        try {
            x.feed(0, 0, 0, 0, 0);
        } catch (IllegalStateException e) {
            thrown = true;
        }
        due("feed without room throws", thrown ? 1 : 0, 1);
        due("count 0", x.count(0), full);
        thrown = false;
        try {
            x.sample(0, 9, 0, 0);
        } catch (NoSuchElementException e) {
            thrown = true;
        }
        due("sample of nothing throws", thrown ? 1 : 0, 1);
        if (wrong != 0) {
            System.exit(1);
        }
    }
}

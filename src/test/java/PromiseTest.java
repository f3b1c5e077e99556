import java.util.NoSuchElementException;

/** Promises 6 to 11: what the calls that ask refuse, which exception is first, and of which frame they tell. */
public final class PromiseTest {
    private static final Due DUE = new Due();
    private static final int[] NO_SLOTS = {-2, 8, 9, Integer.MIN_VALUE, Integer.MAX_VALUE};

    public static void main(String[] args) {
        sampleWithoutPicture();
        sampleOutside();
        checkWithoutPicture();
        checkOfPlanes();
        checkAsInZip();
        sizeWithoutPicture();
        sizeOfAnother();
        modelsThatAreNone();
        blocksBeforeTheFirstFrame();
        blocksOutside();
        blocksOfAnotherWhat();
        blocksOfTheLastFrame();
        countsOfAnother();
        countsBeforeTheFirst();
        countsOfTheLastFrame();
        kindsOfFrames();
        countOfTheTape();
        askingChangesNothing();
        DUE.close("PromiseTest");
    }

    private static VideoDecoder grey(int width, int height) {
        VideoDecoder x = new VideoDecoder();
        Calls.decode(x, FrameWriter.key(width, height));
        return x;
    }

    /** Nothing is shown, and slot 2 alone holds a picture of 7 x 5. */
    private static VideoDecoder slotTwo() {
        VideoDecoder x = new VideoDecoder();
        FrameWriter frame = FrameWriter.intra(7, 5);
        frame.refreshed = 4;
        frame.shown = false;
        Calls.decode(x, frame);
        return x;
    }

    private static void sampleWithoutPicture() {
        DUE.says("NoSuchElementException, first: no such SLOT, or nothing is there");
        VideoDecoder x = slotTwo();
        DUE.be("slot 2", x.sample(2, 0, 6, 4), 128);
        for (int slot = -1; slot < 8; slot++) {
            int s = slot;
            if (s != 2) {
                DUE.thrown("slot " + s, NoSuchElementException.class, () -> x.sample(s, 0, 0, 0));
                DUE.thrown("slot and plane " + s, NoSuchElementException.class, () -> x.sample(s, 3, 0, 0));
                DUE.thrown("slot and x " + s, NoSuchElementException.class, () -> x.sample(s, 0, -1, 500));
            }
        }
        for (int slot : NO_SLOTS) {
            DUE.thrown("slot " + slot, NoSuchElementException.class, () -> x.sample(slot, 0, 0, 0));
            DUE.thrown("slot and plane " + slot, NoSuchElementException.class, () -> x.sample(slot, -1, -1, -1));
        }
    }

    private static void sampleOutside() {
        DUE.says("IndexOutOfBoundsException: no such plane or sample (inside of the PICTURE)");
        for (int[] size : new int[][] {{1, 1}, {7, 5}, {8, 8}, {64, 64}, {65, 33}, {192, 192}}) {
            VideoDecoder x = grey(size[0], size[1]);
            for (int plane = 0; plane < 3; plane++) {
                int p = plane;
                int wide = plane == 0 ? size[0] : (size[0] + 1) / 2;
                int high = plane == 0 ? size[1] : (size[1] + 1) / 2;
                DUE.be("last", x.sample(-1, p, wide - 1, high - 1) >= 0 ? 1 : 0, 1);
                for (int at : new int[] {-1, wide, Integer.MIN_VALUE, Integer.MAX_VALUE}) {
                    DUE.thrown("x " + at, IndexOutOfBoundsException.class, () -> x.sample(-1, p, at, 0));
                }
                for (int at : new int[] {-1, high, Integer.MIN_VALUE, Integer.MAX_VALUE}) {
                    DUE.thrown("y " + at, IndexOutOfBoundsException.class, () -> x.sample(0, p, 0, at));
                }
            }
            for (int plane : new int[] {-1, 3, Integer.MIN_VALUE, Integer.MAX_VALUE}) {
                DUE.thrown("plane " + plane, IndexOutOfBoundsException.class, () -> x.sample(7, plane, 0, 0));
            }
        }
    }

    private static void checkWithoutPicture() {
        DUE.says("check: NoSuchElementException: as sample");
        VideoDecoder x = slotTwo();
        DUE.be("slot 2", x.check(2, 0), Calls.crc(filled(35, 128)));
        for (int slot = -1; slot < 8; slot++) {
            int s = slot;
            if (s != 2) {
                DUE.thrown("slot " + s, NoSuchElementException.class, () -> x.check(s, 0));
                DUE.thrown("slot and plane " + s, NoSuchElementException.class, () -> x.check(s, 3));
            }
        }
        for (int slot : NO_SLOTS) {
            DUE.thrown("slot " + slot, NoSuchElementException.class, () -> x.check(slot, 0));
            DUE.thrown("slot and plane " + slot, NoSuchElementException.class, () -> x.check(slot, -1));
        }
    }

    private static void checkOfPlanes() {
        DUE.says("check: IndexOutOfBoundsException: as sample");
        VideoDecoder x = slotTwo();
        for (int plane : new int[] {-1, 3, Integer.MIN_VALUE, Integer.MAX_VALUE}) {
            DUE.thrown("plane " + plane, IndexOutOfBoundsException.class, () -> x.check(2, plane));
        }
    }

    private static byte[] filled(int length, int value) {
        byte[] out = new byte[length];
        java.util.Arrays.fill(out, (byte) value);
        return out;
    }

    private static void checkAsInZip() {
        DUE.says("The CRC-32 (polynomial EDB88320, as in ZIP) of a plane's samples, row by row");
        for (int[] size : new int[][] {{1, 1}, {2, 1}, {1, 2}, {7, 5}, {40, 33}, {64, 64}}) {
            VideoDecoder x = new VideoDecoder();
            Painter painter = new Painter(size[0], size[1], null, 6);
            painter.frame.base = 255;
            boolean large = size[0] > 32 || size[1] > 32;
            if (large) {
                painter.bits("0").still(0, 0, 64, 64, 0, 9, 4, false);
            } else {
                painter.still(0, 0, 8, 8, 0, 9, 4, false);
            }
            painter.check(DUE, "picture", x);
            for (int plane = 0; plane < 3; plane++) {
                int wide = plane == 0 ? size[0] : (size[0] + 1) / 2;
                int high = plane == 0 ? size[1] : (size[1] + 1) / 2;
                byte[] all = new byte[wide * high];
                for (int i = 0; i < all.length; i++) {
                    all[i] = (byte) x.sample(3, plane, i % wide, i / wide);
                }
                DUE.be("check", x.check(3, plane), Calls.crc(all));
                DUE.be("check of what is shown", x.check(-1, plane), Calls.crc(all));
            }
        }
    }

    private static void sizeWithoutPicture() {
        DUE.says("size: NoSuchElementException: as sample");
        VideoDecoder x = slotTwo();
        DUE.be("width", x.size(2, 0), 7);
        DUE.be("height", x.size(2, 1), 5);
        for (int slot = -1; slot < 8; slot++) {
            int s = slot;
            if (s != 2) {
                DUE.thrown("slot " + s, NoSuchElementException.class, () -> x.size(s, 0));
                DUE.thrown("slot and what " + s, NoSuchElementException.class, () -> x.size(s, 2));
            }
        }
        for (int slot : NO_SLOTS) {
            DUE.thrown("slot " + slot, NoSuchElementException.class, () -> x.size(slot, 0));
            DUE.thrown("slot and what " + slot, NoSuchElementException.class, () -> x.size(slot, -1));
        }
    }

    private static void sizeOfAnother() {
        DUE.says("size: IllegalArgumentException: another what");
        VideoDecoder x = slotTwo();
        for (int what : new int[] {-1, 2, 3, Integer.MIN_VALUE, Integer.MAX_VALUE}) {
            DUE.thrown("what " + what, IllegalArgumentException.class, () -> x.size(2, what));
        }
    }

    private static void modelsThatAreNone() {
        DUE.says("MODEL k, 0 .. 2940, of CONTEXT 0 .. 3. IndexOutOfBoundsException: there is none");
        VideoDecoder x = new VideoDecoder();
        for (int context = 0; context < 4; context++) {
            int c = context;
            DUE.be("first", x.model(c, 0), 128);
            DUE.be("last", x.model(c, 2940), 128);
            for (int k : new int[] {-1, 2941, Integer.MIN_VALUE, Integer.MAX_VALUE}) {
                DUE.thrown("model " + k, IndexOutOfBoundsException.class, () -> x.model(c, k));
            }
        }
        for (int context : new int[] {-1, 4, Integer.MIN_VALUE, Integer.MAX_VALUE}) {
            DUE.thrown("context " + context, IndexOutOfBoundsException.class, () -> x.model(context, 0));
            DUE.thrown("context " + context, IndexOutOfBoundsException.class, () -> x.model(context, 2940));
        }
    }

    private static void blocksBeforeTheFirstFrame() {
        DUE.says("IndexOutOfBoundsException, first: .. there was no FRAME");
        VideoDecoder x = new VideoDecoder();
        for (int what : new int[] {-1, 0, 16, 17}) {
            DUE.thrown("what " + what, IndexOutOfBoundsException.class, () -> x.block(0, 0, what));
        }
        Calls.decode(x, new byte[] {0});
        Calls.decode(x, FrameWriter.again(0));
        DUE.thrown("behind faults", IndexOutOfBoundsException.class, () -> x.block(0, 0, 0));
    }

    private static void blocksOutside() {
        DUE.says("IndexOutOfBoundsException, first: that has no such UNIT");
        VideoDecoder x = grey(17, 9);
        DUE.be("last unit", x.block(2, 1, 0) >= 0 ? 1 : 0, 1);
        for (int what : new int[] {0, 16, 17, -1}) {
            for (int at : new int[] {-1, 3, 24, Integer.MIN_VALUE, Integer.MAX_VALUE}) {
                DUE.thrown("column " + at, IndexOutOfBoundsException.class, () -> x.block(at, 0, what));
            }
            for (int at : new int[] {-1, 2, 24, Integer.MIN_VALUE, Integer.MAX_VALUE}) {
                DUE.thrown("row " + at, IndexOutOfBoundsException.class, () -> x.block(0, at, what));
            }
        }
    }

    private static void blocksOfAnotherWhat() {
        DUE.says("block: IllegalArgumentException: another what");
        VideoDecoder x = grey(17, 9);
        for (int what : new int[] {-1, 17, 18, Integer.MIN_VALUE, Integer.MAX_VALUE}) {
            DUE.thrown("what " + what, IllegalArgumentException.class, () -> x.block(2, 1, what));
        }
    }

    private static void blocksOfTheLastFrame() {
        DUE.says("of the last FRAME that was decoded without fault (not AGAIN)");
        VideoDecoder x = grey(16, 8);
        FrameWriter hidden = FrameWriter.intra(24, 8).bits("1 0 1 10 0 100");
        hidden.shown = false;
        hidden.refreshed = 0;
        Calls.decode(x, hidden);
        DUE.be("hidden", x.block(2, 0, 0), 2);
        DUE.be("its mode", x.block(0, 0, 7), 1);
        Calls.decode(x, FrameWriter.again(0));
        DUE.be("behind AGAIN", x.block(2, 0, 0), 2);
        Calls.decode(x, FrameWriter.key(193, 8));
        FrameWriter cut = FrameWriter.key(8, 8);
        cut.secondLength = 0;
        Calls.decode(x, cut);
        DUE.be("behind faults", x.block(2, 0, 0), 2);
        DUE.be("behind faults", x.block(0, 0, 7), 1);
        Calls.decode(x, FrameWriter.key(8, 8));
        DUE.thrown("of the next one", IndexOutOfBoundsException.class, () -> x.block(2, 0, 0));
    }

    private static void countsOfAnother() {
        DUE.says("count: Else -1");
        for (VideoDecoder x : new VideoDecoder[] {new VideoDecoder(), grey(8, 8)}) {
            for (int what : new int[] {-1, 8, 9, Integer.MIN_VALUE, Integer.MAX_VALUE}) {
                DUE.be("count " + what, x.count(what), -1);
            }
        }
    }

    private static void countsBeforeTheFirst() {
        DUE.says("-1 before the first");
        VideoDecoder x = new VideoDecoder();
        DUE.be("count 7", x.count(7), -1);
        Calls.decode(x, new byte[] {0});
        Calls.decode(x, FrameWriter.again(0));
        DUE.be("count 7 behind faults", x.count(7), -1);
        for (int what = 0; what < 7; what++) {
            DUE.be("count " + what, x.count(what), 0);
        }
    }

    private static void countsOfTheLastFrame() {
        DUE.says("1 FRAMES decoded without fault (AGAIN, too), 2 PICTURES shown; of the last FRAME decoded without fault"
                + " and not AGAIN");
        VideoDecoder x = new VideoDecoder();
        FrameWriter frame = FrameWriter.key(16, 8);
        frame.transformMode = 1;
        frame.level = 20;
        Calls.decode(x, frame.bits("1  1 0 0  0 0 0  1100 0  0 0"));
        int[] due = {0, 1, 1, 2, 13, 1, 8, 0};
        counts(x, due);
        Calls.decode(x, new byte[] {0});
        Calls.decode(x, FrameWriter.key(200, 8));
        counts(x, due);
        Calls.decode(x, FrameWriter.again(3));
        due[1]++;
        due[2]++;
        counts(x, due);
        FrameWriter hidden = FrameWriter.inter();
        hidden.shown = false;
        Calls.decode(x, hidden.bits("0 1 1 0 0"));
        counts(x, 0, 3, 2, 1, 5, 0, 0, 2);
    }

    private static void counts(VideoDecoder x, int... due) {
        for (int what = 0; what < due.length; what++) {
            DUE.be("count " + what, x.count(what), due[what]);
        }
    }

    private static void kindsOfFrames() {
        DUE.says("7 KEY 0, INTRA ONLY 1, else 2");
        VideoDecoder x = grey(8, 8);
        DUE.be("KEY", x.count(7), 0);
        Calls.decode(x, FrameWriter.intra(8, 8));
        DUE.be("INTRA ONLY", x.count(7), 1);
        Calls.decode(x, FrameWriter.inter());
        DUE.be("else", x.count(7), 2);
        FrameWriter resilient = FrameWriter.inter();
        resilient.resilient = true;
        Calls.decode(x, resilient);
        DUE.be("RESILIENT", x.count(7), 2);
        Calls.decode(x, FrameWriter.again(0));
        DUE.be("behind AGAIN", x.count(7), 2);
    }

    private static void countOfTheTape() {
        DUE.says("count: 0 THE TAPE's length");
        VideoDecoder x = new VideoDecoder();
        DUE.be("empty", x.count(0), 0);
        x.feed(1, 2, 3, 4, 5);
        x.feed(1, 2, 3, 4, 5);
        DUE.be("forty", x.count(0), 40);
        x.end(33);
        DUE.be("cut", x.count(0), 33);
    }

    private static void askingChangesNothing() {
        DUE.says("no call that asks, and none that is refused, changes what others answer");
        VideoDecoder x = grey(40, 24);
        FrameWriter frame = FrameWriter.inter();
        frame.keep = true;
        Calls.decode(x, frame.bits("0 1 1 0 10"));
        String before = Calls.state(x);
        DUE.thrown("sample", NoSuchElementException.class, () -> x.sample(8, 0, 0, 0));
        DUE.thrown("sample", IndexOutOfBoundsException.class, () -> x.sample(0, 0, 40, 0));
        DUE.thrown("check", IndexOutOfBoundsException.class, () -> x.check(0, 3));
        DUE.thrown("size", IllegalArgumentException.class, () -> x.size(0, 2));
        DUE.thrown("model", IndexOutOfBoundsException.class, () -> x.model(4, 0));
        DUE.thrown("block", IndexOutOfBoundsException.class, () -> x.block(5, 0, 0));
        DUE.thrown("fault", IllegalArgumentException.class, () -> x.fault(2));
        DUE.thrown("end", IllegalArgumentException.class, () -> x.end(1));
        DUE.be("state", Calls.state(x), before);
    }
}

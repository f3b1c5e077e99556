/** BLOCKS: DIFFERENCE, PLACES, NEAREST and NEAR, and LAST MOTION. */
public final class VectorTest {
    private static final Due DUE = new Due();
    /** Units of the eight PLACES of a block of 16 x 16 at unit (2, 2). */
    private static final int[][] PLACES = {{2, 1}, {1, 2}, {3, 1}, {1, 3}, {1, 1}, {2, 0}, {0, 2}, {0, 0}};
    /** The units round it, in the order in which they are decoded. */
    private static final int[][] ORDER = {
        {0, 0}, {1, 0}, {0, 1}, {1, 1}, {2, 0}, {3, 0}, {2, 1}, {3, 1}, {0, 2}, {1, 2}, {0, 3}, {1, 3}};

    public static void main(String[] args) {
        joints();
        classes();
        wholeOfClassZero();
        wholeBits();
        quarters();
        eighths();
        eighthsNotFine();
        amountsAtTheirLimits();
        fineNeedsShortNearest();
        placesInOrder();
        secondDiffers();
        missingOnes();
        placesThatAreNotThere();
        referencesFirstToSecond();
        sameReferenceFirst();
        turnedRound();
        oddNumbers();
        oddOnesAreDroppedBehindTheChoice();
        heldWithinX();
        heldWithinY();
        newOnesAreNotHeld();
        lastMotionInOrder();
        lastMotionAtTheFirstUnit();
        lastMotionOrNone();
        lastMotionOfAnotherSize();
        zeroHasNoVector();
        DUE.close("VectorTest");
    }

    private static byte[] grey(int width, int height) {
        return FrameWriter.key(width, height).bytes();
    }

    private static Scene scene(int width, int height) {
        return new Scene().after(grey(width, height));
    }

    private static void due(VideoDecoder x, int column, int row, int vx, int vy) {
        DUE.be("vector x", x.block(column, row, 12), vx);
        DUE.be("vector y", x.block(column, row, 13), vy);
    }

    private static FrameWriter fresh(boolean fine) {
        FrameWriter frame = FrameWriter.inter();
        frame.fine = fine;
        return frame.m(60, "1").m(1101, "1").m(1110, "0").m(1116, "111");
    }

    private static void fresh(FrameWriter frame, int vx, int vy) {
        VideoDecoder x = new VideoDecoder();
        Calls.decode(x, grey(8, 8));
        Calls.decodeLearning(DUE, x, frame);
        due(x, 0, 0, vx, vy);
    }

    private static void joints() {
        DUE.says("M(1128): 0: none; M(1129): 0: x alone; M(1130): 0 y alone, 1 both, y first");
        fresh(fresh(true).m(1128, "0"), 0, 0);
        fresh(fresh(true).m(1128, "10").m(1158, "00").m(1166, "0").m(1174, "00").m(1183, "0"), 1, 0);
        fresh(fresh(true).m(1128, "110").m(1131, "00").m(1139, "0").m(1147, "00").m(1156, "1"), 0, 2);
        FrameWriter both = fresh(true).m(1128, "111").m(1131, "10").m(1139, "1").m(1150, "00").m(1156, "1");
        fresh(both.m(1158, "00").m(1166, "0").m(1174, "00").m(1183, "0"), 1, -10);
    }

    private static void classes() {
        DUE.says("class c: M(v + 1 + i), i = 0 .. 6, 1 is the next, 0 it is i, at most 7");
        for (int c = 0; c < 8; c++) {
            FrameWriter frame = fresh(true).m(1128, "10").m(1158, "0").ladder(1159, c, 7);
            if (c == 0) {
                frame.m(1166, "0").m(1174, "00").m(1183, "0");
            } else {
                frame.m(1167, "0".repeat(c)).m(1180, "00").m(1184, "0");
            }
            fresh(frame, c == 0 ? 1 : (8 << c) + 1, 0);
        }
    }

    private static void wholeOfClassZero() {
        DUE.says("whole: c 0: d = M(v + 8)");
        for (int d = 0; d < 2; d++) {
            FrameWriter frame = fresh(true).m(1128, "110").m(1131, "0").m(1132, "0").m(1139, "" + d);
            fresh(frame.m(1147 + 3 * d, "00").m(1156, "0"), 0, 8 * d + 1);
        }
    }

    private static void wholeBits() {
        DUE.says("else d = c bits, bit j of value 2 to the j by M(v + 9 + j), j = 0 ..");
        for (int c = 1; c < 8; c++) {
            for (int j = 0; j < c; j++) {
                String bits = "0".repeat(j) + "1" + "0".repeat(c - 1 - j);
                FrameWriter frame = fresh(true).m(1128, "110").m(1131, "1").ladder(1132, c, 7).m(1140, bits);
                fresh(frame.m(1153, "00").m(1157, "0"), 0, -((8 << c) + (8 << j) + 1));
            }
        }
    }

    private static void quarters() {
        DUE.says("quarter f: two bits, M(q), then M(q + 1 + it), the first the higher;"
                + " q = v + 16 + 3 * d for c 0, else v + 22");
        for (int f = 0; f < 4; f++) {
            for (int d = 0; d < 2; d++) {
                FrameWriter frame = fresh(true).m(1128, "10").m(1158, "00").m(1166, "" + d);
                int q = 1158 + 16 + 3 * d;
                fresh(frame.m(q, "" + (f >> 1)).m(q + 1 + (f >> 1), "" + (f & 1)).m(1183, "0"), 8 * d + 2 * f + 1, 0);
            }
            FrameWriter frame = fresh(true).m(1128, "10").m(1158, "010").m(1167, "0");
            int q = 1158 + 22;
            fresh(frame.m(q, "" + (f >> 1)).m(q + 1 + (f >> 1), "" + (f & 1)).m(1184, "0"), 16 + 2 * f + 1, 0);
        }
    }

    private static void eighths() {
        DUE.says("FINE: e = M(v + 25) for c 0, else M(v + 26)");
        for (int e = 0; e < 2; e++) {
            fresh(fresh(true).m(1128, "10").m(1158, "00").m(1166, "0").m(1174, "00").m(1183, "" + e), 1 + e, 0);
            FrameWriter frame = fresh(true).m(1128, "110").m(1131, "010").m(1140, "0").m(1153, "00");
            fresh(frame.m(1157, "" + e), 0, 17 + e);
        }
    }

    private static void eighthsNotFine() {
        DUE.says("FINE ..; else 1");
        fresh(fresh(false).m(1128, "10").m(1158, "00").m(1166, "0").m(1174, "00"), 2, 0);
        fresh(fresh(false).m(1128, "110").m(1131, "110").m(1140, "0").m(1153, "00"), 0, -18);
    }

    private static void amountsAtTheirLimits() {
        DUE.says("Its amount: (c 0: 0, else 2 to the c + 3) + 8 * d + 2 * f + e + 1");
        for (int amount : new int[] {1, 2, 15, 16, 17, 32, 33, 64, 65, 1024, 1025, 2047, 2048}) {
            for (int sign = -1; sign <= 1; sign += 2) {
                due(scene(8, 8).other(0, 0, 0, sign * amount, 0).decode(""), 0, 0, sign * amount, 0);
                due(scene(8, 8).other(0, 0, 0, 0, sign * amount).decode(""), 0, 0, 0, sign * amount);
            }
        }
        FrameWriter largest = fresh(true).m(1128, "10").m(1158, "1").m(1159, "1111111").m(1167, "1111111");
        fresh(largest.m(1180, "1").m(1182, "1").m(1184, "1"), -2048, 0);
    }

    /** A NEW block by the bits of a DIFFERENCE behind a block that has the vector. */
    private static VideoDecoder behind(boolean fine, int vx, int vy, String difference) {
        Scene scene = scene(16, 8).bits("1");
        scene.fine = fine;
        return scene.other(0, 0, 0, vx, vy).decode("1 1 0 111" + difference);
    }

    private static void fineNeedsShortNearest() {
        DUE.says("FINE, and NEAREST's two numbers both have less than 64 in amount");
        int[][] vectors = {{63, 63}, {-63, 63}, {63, -63}, {64, 0}, {-64, 0}, {0, 64}, {0, -64}, {64, 64}, {63, -64}};
        for (int[] v : vectors) {
            boolean finest = Math.abs(v[0]) < 64 && Math.abs(v[1]) < 64;
            // Class 0, whole 0, quarter 0, and an eighth of 0, or what would be the next bit.
            VideoDecoder x = behind(true, v[0], v[1], "10 0 0 0 00 0");
            int nearX = finest ? v[0] : v[0] / 2 * 2;
            int nearY = finest ? v[1] : v[1] / 2 * 2;
            due(x, 1, 0, nearX + (finest ? 1 : 2), nearY);
        }
        due(behind(false, 62, 0, "10 0 0 0 00 0"), 1, 0, 64, 0);
    }

    /** A block of 16 x 16 at (2, 2) with OTHER ones in some places; vectors by place, null for none. */
    private static Scene round(Scene scene, int[][] vectors, int... references) {
        scene.bits("111");
        for (int i = 0; i < ORDER.length; i++) {
            if (i % 4 == 0) {
                scene.bits("111");
            }
            int place = placeOf(ORDER[i]);
            if (place < 0 || vectors[place] == null) {
                scene.own();
            } else {
                int reference = references.length == 0 ? 0 : references[place];
                scene.other(ORDER[i][0], ORDER[i][1], reference, vectors[place][0], vectors[place][1]);
            }
        }
        return scene.bits("0");
    }

    private static int placeOf(int[] unit) {
        for (int i = 0; i < 8; i++) {
            if (PLACES[i][0] == unit[0] && PLACES[i][1] == unit[1]) {
                return i;
            }
        }
        return -1;
    }

    private static void nearestAndNear(Scene scene, int reference, int... due) {
        String head = "1 1 " + new String[] {"0 ", "10 ", "11 "}[reference];
        VideoDecoder x = scene.decode(head + "10");
        due(x, 3, 3, due[0], due[1]);
        DUE.be("KIND", x.block(3, 3, 11), 1);
        x = scene.decode(head + "110");
        due(x, 3, 3, due[2], due[3]);
        DUE.be("KIND", x.block(3, 3, 11), 2);
    }

    private static void placesInOrder() {
        DUE.says("PLACES: (0, -1), (-1, 0), (w - 1, -1), (-1, h - 1), (-1, -1), (0, -2), (-2, 0), (-2, -2)");
        for (int i = 0; i < 8; i++) {
            for (int j = i + 1; j < 8; j++) {
                int[][] vectors = new int[8][];
                vectors[i] = new int[] {5, -7};
                vectors[j] = new int[] {-9, 11};
                nearestAndNear(round(scene(32, 32), vectors), 0, 5, -7, -9, 11);
            }
        }
    }

    private static void secondDiffers() {
        DUE.says("the second one only if it differs from the first, until there are two");
        int[] a = {5, -7};
        int[] b = {5, -8};
        int[] c = {4, -7};
        nearestAndNear(round(scene(32, 32), new int[][] {a, a, a, a, a, a, a, b}), 0, 5, -7, 5, -8);
        nearestAndNear(round(scene(32, 32), new int[][] {a, a, c, b, b, b, b, b}), 0, 5, -7, 4, -7);
        nearestAndNear(round(scene(32, 32), new int[][] {a, b, c, c, c, c, c, c}), 0, 5, -7, 5, -8);
    }

    private static void missingOnes() {
        DUE.says("Missing ones are (0, 0)");
        nearestAndNear(round(scene(32, 32), new int[8][]), 0, 0, 0, 0, 0);
        nearestAndNear(round(scene(32, 32), new int[][] {null, null, {6, 7}, null, null, null, null, {6, 7}}), 0, 6, 7, 0, 0);
    }

    private static void placesThatAreNotThere() {
        DUE.says("of each PLACE that is there and OTHER");
        // The first block of a picture has no place at all, in the frame before there were vectors.
        Scene first = scene(16, 16).bits("0");
        first.resilient = true;
        due(first.decode("1 1 0 10"), 0, 0, 0, 0);
        // A block of 16 x 16 at (0, 2): (-1, 0) and its like are outside; (w - 1, -1) is there.
        Scene scene = scene(16, 32).bits("1 111").own().own().own().other(1, 1, 0, 3, 4).bits("0");
        due(scene.decode("1 1 0 10"), 0, 2, 3, 4);
        // A block of 8 x 16 on the left of one of 8 x 16 that is not decoded yet: (0, -1) is all it has.
        scene = scene(16, 32).bits("1 10").own().other(0, 1, 0, 9, 9).bits("110");
        due(scene.decode("1 1 0 10"), 0, 3, 9, 9);
    }

    private static void referencesFirstToSecond() {
        DUE.says("of its references, first to second, the vector of one that is r");
        for (int reference = 0; reference < 3; reference++) {
            Scene scene = scene(16, 8).bits("1");
            scene.sides = new int[] {0, 0, 1};
            scene.doubling = 2;
            scene.pair(0, 0, 0, 3, 4, -5, 6);
            String head = "1 1 0 " + new String[] {"0 ", "10 ", "11 "}[reference];
            VideoDecoder x = scene.decode(head + "10");
            DUE.be("second of the pair, x", x.block(0, 0, 14), -5);
            DUE.be("second of the pair, y", x.block(0, 0, 15), 6);
            due(x, 1, 0, reference == 2 ? -5 : 3, reference == 2 ? 6 : 4);
            x = scene.decode(head + "110");
            // Reference 2 is on another side: what it has is turned round for 0 and 1, and the other way.
            due(x, 1, 0, reference == 2 ? -3 : 5, reference == 2 ? -4 : -6);
        }
    }

    private static void sameReferenceFirst() {
        DUE.says("Then of each PLACE: vectors of references that are not r");
        int[][] vectors = new int[8][];
        vectors[0] = new int[] {20, 30};
        vectors[7] = new int[] {-1, -2};
        nearestAndNear(round(scene(32, 32), vectors, 1, 0, 0, 0, 0, 0, 0, 0), 0, -1, -2, 20, 30);
        nearestAndNear(round(scene(32, 32), vectors, 1, 0, 0, 0, 0, 0, 0, 0), 1, 20, 30, -1, -2);
        nearestAndNear(round(scene(32, 32), vectors, 1, 0, 0, 0, 0, 0, 0, 0), 2, 20, 30, -1, -2);
        nearestAndNear(round(scene(32, 32), vectors, 1, 0, 0, 0, 0, 0, 0, 1), 2, 20, 30, -1, -2);
    }

    private static void turnedRound() {
        DUE.says("turned round (both numbers negated) if its SIDE is not that of r");
        for (int sides = 0; sides < 8; sides++) {
            for (int its = 0; its < 3; its++) {
                for (int r = 0; r < 3; r++) {
                    Scene scene = scene(32, 32);
                    scene.sides = new int[] {sides & 1, sides >> 1 & 1, sides >> 2};
                    int[][] vectors = new int[8][];
                    vectors[4] = new int[] {20, -30};
                    int turn = scene.sides[its] == scene.sides[r] ? 1 : -1;
                    int[] references = new int[8];
                    references[4] = its;
                    nearestAndNear(round(scene, vectors, references), r, turn * 20, turn * -30, 0, 0);
                }
            }
        }
    }

    /** What a block of 8 x 8 makes of the vector that the frame before had at its place. */
    private static void fromLast(int width, int height, boolean fine, int[] vector, int... due) {
        Scene before = scene(width, height).other(0, 0, 0, vector[0], vector[1]);
        Scene scene = scene(width, height).after(before.bytes());
        scene.fine = fine;
        due(scene.decode("1 1 0 10"), 0, 0, due[0], due[1]);
    }

    private static void oddNumbers() {
        DUE.says("Not FINE, or not both numbers below 64 in amount: a number that is odd becomes one nearer to 0");
        fromLast(8, 8, true, new int[] {11, -11}, 11, -11);
        fromLast(8, 8, false, new int[] {11, -11}, 10, -10);
        fromLast(8, 8, false, new int[] {1, -1}, 0, 0);
        fromLast(8, 8, false, new int[] {12, -12}, 12, -12);
        fromLast(8, 8, true, new int[] {63, -63}, 63, -63);
        fromLast(8, 8, true, new int[] {64, -63}, 64, -62);
        fromLast(8, 8, true, new int[] {63, -64}, 62, -64);
        fromLast(8, 8, true, new int[] {65, 1}, 64, 0);
        fromLast(8, 8, true, new int[] {-1, 65}, 0, 64);
        fromLast(8, 8, true, new int[] {-65, -65}, -64, -64);
    }

    private static void oddOnesAreDroppedBehindTheChoice() {
        DUE.says("vectors are collected as they are; Last both are held");
        int[][] vectors = {{65, 0}, {64, 0}, {2, 2}, null, null, null, null, null};
        nearestAndNear(round(scene(32, 32), vectors), 0, 64, 0, 64, 0);
        // 257 and 300 are both held at 256, and 257 is odd as well.
        vectors = new int[][] {{300, 0}, {257, 0}, {2, 2}, null, null, null, null, null};
        nearestAndNear(round(scene(32, 32), vectors), 0, 256, 0, 256, 0);
    }

    private static void heldWithinX() {
        DUE.says("held within x: -8 * (X + w8 + 16) .. 8 * (W + 16 - X)");
        for (int width : new int[] {1, 7, 8}) {
            int most = 8 * (width + 16);
            int least = -8 * (8 + 16);
            for (int by = -2; by <= 2; by += 2) {
                fromLast(width, 8, true, new int[] {most + by, 0}, Math.min(most, most + by), 0);
                fromLast(width, 8, true, new int[] {least + by, 0}, Math.max(least, least + by), 0);
            }
        }
        // At X = 16, 16 wide, in 32 and in 25 samples.
        for (int width : new int[] {32, 25}) {
            int most = 8 * (width + 16 - 16);
            nearestAndNear(round(scene(width, 32), new int[][] {
                {2000, 0}, {-2000, 0}, null, null, null, null, null, null}), 0, most, 0, -8 * (16 + 16 + 16), 0);
            nearestAndNear(round(scene(width, 32), new int[][] {
                {most - 2, 0}, {-382, 0}, null, null, null, null, null, null}), 0, most - 2, 0, -382, 0);
        }
    }

    private static void heldWithinY() {
        DUE.says("held within .., y likewise");
        for (int height : new int[] {1, 7, 8}) {
            int most = 8 * (height + 16);
            int least = -8 * (8 + 16);
            for (int by = -2; by <= 2; by += 2) {
                fromLast(8, height, true, new int[] {0, most + by}, 0, Math.min(most, most + by));
                fromLast(8, height, true, new int[] {0, least + by}, 0, Math.max(least, least + by));
            }
        }
        for (int height : new int[] {32, 25}) {
            int most = 8 * (height + 16 - 16);
            nearestAndNear(round(scene(32, height), new int[][] {
                {0, 2000}, {0, -2000}, null, null, null, null, null, null}), 0, 0, most, 0, -8 * (16 + 16 + 16));
        }
    }

    private static void newOnesAreNotHeld() {
        DUE.says("NEW: a DIFFERENCE is read and added to NEAREST");
        Scene before = scene(8, 8).other(0, 0, 0, 2000, -2000);
        Scene scene = scene(8, 8).after(before.bytes());
        VideoDecoder x = scene.decode("1 1 0 111" + Scene.difference(2048, -2048, false));
        due(x, 0, 0, 192 + 2048, -192 - 2048);
        DUE.be("sample", x.sample(-1, 0, 7, 0), x.sample(0, 0, 7, 0));
    }

    private static void lastMotionInOrder() {
        DUE.says("Then of LAST MOTION at the block's first UNIT likewise .. and then LAST MOTION");
        for (int place = 0; place < 3; place++) {
            for (int last = 0; last < 2; last++) {
                // A block of 8 x 8 with a place (or none) of REFERENCE 0 or 1, and last motion of 0 or 1.
                Scene before = scene(16, 8).bits("1").own().other(1, 0, last, 7, 8);
                Scene scene = scene(16, 8).after(before.bytes()).bits("1");
                if (place == 2) {
                    scene.own();
                } else {
                    scene.other(0, 0, place, -3, -4);
                }
                int[] lasts = {7, 8};
                int[] places = place == 2 ? new int[] {0, 0} : new int[] {-3, -4};
                boolean lastFirst = place == 2 || place == 1 && last == 0;
                int[] nearest = lastFirst ? lasts : places;
                int[] near = lastFirst ? places : lasts;
                due(scene.decode("1 1 0 10"), 1, 0, nearest[0], nearest[1]);
                due(scene.decode("1 1 0 110"), 1, 0, near[0], near[1]);
            }
        }
        // Its vectors are turned round by the SIDES of this frame.
        for (int side = 0; side < 2; side++) {
            Scene before = scene(8, 8).other(0, 0, 1, 7, 8);
            Scene scene = scene(8, 8).after(before.bytes());
            scene.sides[1] = side;
            due(scene.decode("1 1 0 10"), 0, 0, side == 1 ? -7 : 7, side == 1 ? -8 : 8);
        }
    }

    private static void lastMotionAtTheFirstUnit() {
        DUE.says("LAST MOTION: the blocks' references and vectors of the FRAME before, by UNIT");
        Scene before = scene(16, 16).bits("111").other(0, 0, 0, 1, 2).other(1, 0, 0, 3, 4)
                .other(0, 1, 0, 5, 6).other(1, 1, 0, 7, 8);
        due(scene(16, 16).after(before.bytes()).bits("0").decode("1 1 0 10"), 0, 0, 1, 2);
        due(scene(16, 16).after(before.bytes()).bits("10").own().decode("1 1 0 10"), 0, 1, 5, 6);
        due(scene(16, 16).after(before.bytes()).bits("110").own().decode("1 1 0 10"), 1, 0, 3, 4);
        due(scene(16, 16).after(before.bytes()).bits("111").own().own().own().decode("1 1 0 10"), 1, 1, 7, 8);
        // The frame before that does not count.
        byte[] none = scene(16, 16).bits("0").own().bytes();
        due(scene(16, 16).after(before.bytes()).after(none).bits("0").decode("1 1 0 10"), 0, 0, 0, 0);
    }

    private static byte[] moving(boolean shown) {
        FrameWriter frame = FrameWriter.inter().bits("1 1 0 111" + Scene.difference(9, 10, true));
        frame.fine = true;
        frame.shown = shown;
        return frame.bytes();
    }

    private static void lastMotionOrNone() {
        DUE.says("if that was SHOWN and not AGAIN, and this one is not RESILIENT; else none"
                + " (AGAIN leaves none, and all else as it is)");
        due(scene(8, 8).after(moving(true)).decode("1 1 0 10"), 0, 0, 9, 10);
        due(scene(8, 8).after(moving(false)).decode("1 1 0 10"), 0, 0, 0, 0);
        due(scene(8, 8).after(moving(true)).after(FrameWriter.again(0)).decode("1 1 0 10"), 0, 0, 0, 0);
        due(scene(8, 8).after(FrameWriter.again(0)).after(moving(true)).decode("1 1 0 10"), 0, 0, 9, 10);
        due(scene(8, 8).after(moving(true)).after(grey(8, 8)).decode("1 1 0 10"), 0, 0, 0, 0);
        Scene resilient = scene(8, 8).after(moving(true));
        resilient.resilient = true;
        due(resilient.decode("1 1 0 10"), 0, 0, 0, 0);
        Scene before = scene(8, 8);
        before.resilient = true;
        before.other(0, 0, 0, 9, 10);
        due(scene(8, 8).after(before.bytes()).decode("1 1 0 10"), 0, 0, 9, 10);
        // Faults and frames of no length change nothing.
        byte[] passed = Calls.chunk(1, new byte[0], new byte[0]);
        Scene scene = scene(8, 8).after(moving(true)).after(new byte[] {0}).after(passed).after(new byte[] {(byte) 0x80});
        due(scene.decode("1 1 0 10"), 0, 0, 9, 10);
    }

    private static void lastMotionOfAnotherSize() {
        DUE.says("LAST MOTION: if that had the same size");
        for (int[] size : new int[][] {{8, 8}, {7, 8}, {8, 7}, {9, 8}, {8, 9}}) {
            FrameWriter side = FrameWriter.intra(size[0], size[1]);
            side.refreshed = 2;
            FrameWriter moves = FrameWriter.inter();
            moves.refreshed = 0;
            moves.fine = true;
            moves.references = new int[] {1, 1, 1};
            String division = size[0] > 8 || size[1] > 8 ? "0" : "";
            moves.bits(division + "1 1 0 111" + Scene.difference(9, 10, true));
            Scene scene = scene(8, 8).after(side.bytes()).after(moves.bytes());
            boolean same = size[0] == 8 && size[1] == 8;
            due(scene.decode("1 1 0 10"), 0, 0, same ? 9 : 0, same ? 10 : 0);
        }
    }

    private static void zeroHasNoVector() {
        DUE.says("12, 13 first vector x, y, 14, 15 second, 0 if none");
        Scene scene = scene(8, 8).after(moving(true));
        scene.sides[2] = 1;
        scene.doubling = 1;
        VideoDecoder x = scene.decode("1 1 0 0");
        due(x, 0, 0, 0, 0);
        x = scene.decode("1 1 0 10");
        due(x, 0, 0, 9, 10);
        DUE.be("second x", x.block(0, 0, 14), -9);
        DUE.be("second y", x.block(0, 0, 15), -10);
    }
}

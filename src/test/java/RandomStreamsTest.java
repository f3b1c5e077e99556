import java.util.Random;

/** All promises together, on drawn streams, and on noise that is no stream. */
public final class RandomStreamsTest {
    // Of the states behind every chunk, by seed. A second decoder, written sample by sample from
    // the document and not kept here, gave the same ones.
    private static final int[] STATES = {
        -1106427292, -1948672817, 1222471920, 1323800594, -1918203119, -1956741378, 1219215715, -1819401171,
        -79558352, -1388460527, -69995444, -1006689597, -2108406916, 487541320, -949679588, -475885240,
        -1493498639, 89174769, -768504584, -943928038, -1858903238, -970479535, -2144470247, 1417583945,
        -751436010, 1525540669, -332743832, 1837503477, -1798271008, 1421361374, -1141196554, -945637789,
        -1376193128, 1330296212, -223929214, 1675616275, 1440388490, -532839181, -456153071, -1029154207,
        2102419264, -1400432656, -405204575, 1659700240, 538612874, 1969304604, -1248044067, -167022380,
        -1374110029, 138197133, 1297373461, -745401214, 748028706, -1463285165, 1848931841, 1763413114,
        924484858, -1382348039, -1654307983, -1718496869, 1122466413, 1900305885, 1072634367, -981709556,
        2072528408, 339562540, 1629449368, -2020301619, 271927082, 486647158, 541584530, -684143149,
        1113747870, -1386526811, 926262912, -642792388, -1874068819, 437033188, -1332642473, -257614998,
        -1785118275, -1988450172, 326665347, 1284782075, -1782496292, 840853221, 2123319777, -1147893576,
        414124167, -1338293870, 1230627539, 268936702, 1291702352, 1032180932, 1330672752, 1940085365,
        -415267973, 1886389023, -1934057724, 2017346747};

    public static void main(String[] args) {
        Due due = new Due();
        due.says("Moving pictures are decoded to the bit");
        for (int seed = 0; seed < STATES.length; seed++) {
            due.be("states of seed " + seed, Calls.crc(states(seed).getBytes()), STATES[seed]);
        }
        due.be("the same again", states(7), states(7));
        noise(due);
        due.close("RandomStreamsTest");
    }

    private static String states(int seed) {
        VideoDecoder x = new VideoDecoder();
        StringBuilder out = new StringBuilder();
        for (byte[] chunk : new RandomStreams(seed).chunks()) {
            int got = Calls.decode(x, chunk);
            out.append(got < 0 ? "throws" : "" + got).append(' ').append(Calls.state(x)).append('\n');
        }
        return out.toString();
    }

    /** Whatever is fed, decode answers or throws what it may throw, and the tape is empty. */
    private static void noise(Due due) {
        due.says("UnsupportedOperationException: a fault; and nothing else ever");
        Random random = new Random(1);
        VideoDecoder x = new VideoDecoder();
        for (int i = 0; i < 3000; i++) {
            byte[] chunk = new byte[random.nextInt(random.nextInt(10) == 0 ? 3000 : 60)];
            random.nextBytes(chunk);
            if (chunk.length > 0) {
                chunk[0] = (byte) (chunk[0] & 63 | 128);
            }
            if (chunk.length > 8 && random.nextBoolean()) {
                chunk[chunk.length - 1] = (byte) (192 + random.nextInt(3));
                chunk[chunk.length - 3 - (chunk[chunk.length - 1] & 7)] = chunk[chunk.length - 1];
            }
            int got = Calls.decode(x, chunk);
            due.be("answer within bounds", got >= -8 && got <= 8 ? 1 : 0, 1);
            due.be("the tape is empty", x.count(0), 0);
        }
    }
}

import java.io.ByteArrayOutputStream;
import java.util.NoSuchElementException;
import java.util.zip.CRC32;

/** Runs of calls that many tests need. */
final class Calls {
    private Calls() {
    }

    static void fill(VideoDecoder decoder, byte[] bytes) {
        for (int i = 0; i < bytes.length; i += 20) {
            int[] words = new int[5];
            for (int j = 0; j < 20; j++) {
                words[j / 4] = words[j / 4] << 8 | (i + j < bytes.length ? bytes[i + j] & 255 : 0);
            }
            decoder.feed(words[0], words[1], words[2], words[3], words[4]);
        }
        decoder.end(bytes.length);
    }

    /** What decode answers, or the fault, negated, if it throws. */
    static int decode(VideoDecoder decoder, byte[] chunk) {
        fill(decoder, chunk);
        try {
            return decoder.decode();
        } catch (UnsupportedOperationException e) {
            return -decoder.fault(0);
        }
    }

    static int decode(VideoDecoder decoder, FrameWriter frame) {
        return decode(decoder, frame.bytes());
    }

    /** A chunk of frames with an index of so many bytes a length. */
    static byte[] chunk(int bytesEach, byte[]... frames) {
        int[] lengths = new int[frames.length];
        for (int i = 0; i < frames.length; i++) {
            lengths[i] = frames[i].length;
        }
        return chunk(bytesEach, lengths, frames);
    }

    static byte[] chunk(int bytesEach, int[] lengths, byte[]... frames) {
        ByteArrayOutputStream out = new ByteArrayOutputStream();
        for (byte[] frame : frames) {
            out.writeBytes(frame);
        }
        int marker = 192 + 8 * (bytesEach - 1) + lengths.length - 1;
        out.write(marker);
        for (int length : lengths) {
            for (int i = 0; i < bytesEach; i++) {
                out.write(length >>> 8 * i);
            }
        }
        out.write(marker);
        return out.toByteArray();
    }

    /** Decodes a frame that is kept, and looks whether each model was read as often as it was written. */
    static void decodeLearning(Due due, VideoDecoder decoder, FrameWriter frame) {
        frame.keep = true;
        due.be("decode", decode(decoder, frame), frame.shown ? 1 : 0);
        due.be("count 4", decoder.count(4), frame.readings());
        for (int k = 0; k < FrameWriter.MODELS; k++) {
            due.be("model " + k, decoder.model(frame.context, k), frame.learnt(k));
        }
    }

    static int crc(byte[] bytes) {
        CRC32 crc = new CRC32();
        crc.update(bytes);
        return (int) crc.getValue();
    }

    /** Everything that can be asked of an object, in one line. */
    static String state(VideoDecoder decoder) {
        StringBuilder out = new StringBuilder();
        out.append(decoder.fault(0)).append(' ').append(decoder.fault(1));
        out.append(' ').append(memory(decoder));
        return out.toString();
    }

    /** The same without what the last chunk alone changes. */
    static String memory(VideoDecoder decoder) {
        StringBuilder out = new StringBuilder();
        for (int what = 1; what <= 7; what++) {
            out.append(decoder.count(what)).append(' ');
        }
        for (int slot = -1; slot < 8; slot++) {
            out.append(picture(decoder, slot)).append(' ');
        }
        for (int context = 0; context < 4; context++) {
            byte[] models = new byte[2941];
            for (int k = 0; k < 2941; k++) {
                models[k] = (byte) decoder.model(context, k);
            }
            out.append(crc(models)).append(' ');
        }
        return out.append(crc(blocks(decoder).getBytes())).toString();
    }

    private static String picture(VideoDecoder decoder, int slot) {
        try {
            return decoder.size(slot, 0) + " " + decoder.size(slot, 1) + " " + decoder.check(slot, 0)
                    + " " + decoder.check(slot, 1) + " " + decoder.check(slot, 2);
        } catch (NoSuchElementException e) {
            return "none";
        }
    }

    private static String blocks(VideoDecoder decoder) {
        StringBuilder out = new StringBuilder();
        for (int y = 0; y < 24; y++) {
            for (int x = 0; x < 24; x++) {
                try {
                    for (int what = 0; what < 17; what++) {
                        out.append(decoder.block(x, y, what)).append(what == 16 ? ';' : ',');
                    }
                } catch (IndexOutOfBoundsException e) {
                    break;
                }
            }
        }
        return out.toString();
    }
}

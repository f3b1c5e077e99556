import java.math.BigInteger;

/** The arithmetic encoder: writes what the decoder of the document reads. */
final class CodeWriter {
    private BigInteger low = BigInteger.ZERO;
    private int range = 255;
    private int length = 8;

    CodeWriter bit(int bit, int chance) {
        int split = 1 + (range - 1) * chance / 256;
        if (bit == 0) {
            range = split;
        } else {
            low = low.add(BigInteger.valueOf(split));
            range -= split;
        }
        while (range < 128) {
            range *= 2;
            low = low.shiftLeft(1);
            length++;
        }
        return this;
    }

    /** Bits of chance 128, which all models are at first; all but 0 and 1 is passed over. */
    CodeWriter bits(String bits) {
        for (char c : bits.toCharArray()) {
            if (c == '0' || c == '1') {
                bit(c - '0', 128);
            }
        }
        return this;
    }

    CodeWriter number(int value, int width) {
        for (int i = width - 1; i >= 0; i--) {
            bit(value >> i & 1, 128);
        }
        return this;
    }

    byte[] bytes() {
        int padded = (length + 7) / 8 * 8;
        BigInteger all = low.shiftLeft(padded - length);
        byte[] out = new byte[padded / 8];
        for (int i = 0; i < out.length; i++) {
            out[i] = all.shiftRight(8 * (out.length - 1 - i)).byteValue();
        }
        return out;
    }
}

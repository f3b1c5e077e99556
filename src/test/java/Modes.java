/** The modes of prediction from the picture itself, sample by sample as the document words them. */
final class Modes {
    private Modes() {
    }

    private static int m2(int a, int b) {
        return a + b + 1 >> 1;
    }

    private static int m3(int a, int b, int c) {
        return a + 2 * b + c + 2 >> 2;
    }

    /** All but DC. */
    static int sample(int mode, int x, int y, int n, int[] a, int[] l, int c) {
        switch (mode) {
            case 1:
                return a[x];
            case 2:
                return l[y];
            case 3:
                return x == n - 1 && y == n - 1 ? a[2 * n - 1] : m3(a[x + y], a[x + y + 1], a[x + y + 2]);
            case 4:
                return m3(z(x - y - 1, a, l, c), z(x - y, a, l, c), z(x - y + 1, a, l, c));
            case 5:
                return d117(2 * x - y, a, l, c);
            case 6:
                return d153(2 * y - x, a, l, c);
            case 7:
                int g = (x + 2 * y) / 2;
                return (x + 2 * y) % 2 == 0 ? m2(left(g, l), left(g + 1, l))
                        : m3(left(g, l), left(g + 1, l), left(g + 2, l));
            case 8:
                int h = y / 2;
                return y % 2 == 0 ? m2(a[h + x], a[h + x + 1]) : m3(a[h + x], a[h + x + 1], a[h + x + 2]);
            default:
                return Math.max(0, Math.min(255, l[y] + a[x] - c));
        }
    }

    private static int left(int i, int[] l) {
        return l[Math.min(i, l.length - 1)];
    }

    private static int z(int i, int[] a, int[] l, int c) {
        return i < 0 ? l[-i - 1] : i == 0 ? c : a[i - 1];
    }

    private static int d117(int v, int[] a, int[] l, int c) {
        if (v >= 0 && v % 2 == 0) {
            return m2(z(v / 2, a, l, c), z(v / 2 + 1, a, l, c));
        }
        if (v > 0) {
            return m3(z((v - 1) / 2, a, l, c), z((v + 1) / 2, a, l, c), z((v + 3) / 2, a, l, c));
        }
        int w = -v - 1;
        return v == -1 ? m3(z(-1, a, l, c), c, z(1, a, l, c)) : m3(z(-w - 1, a, l, c), z(-w, a, l, c), z(-w + 1, a, l, c));
    }

    private static int d153(int v, int[] a, int[] l, int c) {
        if (v >= 0 && v % 2 == 0) {
            return m2(z(-v / 2, a, l, c), z(-v / 2 - 1, a, l, c));
        }
        if (v > 0) {
            return m3(z(-(v - 1) / 2, a, l, c), z(-(v + 1) / 2, a, l, c), z(-(v + 3) / 2, a, l, c));
        }
        int w = -v - 1;
        return v == -1 ? m3(z(-1, a, l, c), c, z(1, a, l, c)) : m3(z(w - 1, a, l, c), z(w, a, l, c), z(w + 1, a, l, c));
    }
}

/** Promise 2. */
public final class PokeTest {
    private static final long EIGHT = 0xF1E2D3C4B5A69788L;

    public static void main(String[] args) {
        for (int n = 1; n <= 8; n++) {
            lowestFirst(n, 100);
            lowestFirst(n, 0);
            lowestFirst(n, 2048 - n);
            refused(2049 - n, n);
        }
        int[] wrongCounts = {0, 9, 10, 64, -1, -8, Integer.MAX_VALUE, Integer.MIN_VALUE};
        for (int n : wrongCounts) {
            refused(0, n);
            refused(100, n);
        }
        int[] wrongPlaces = {-1, -8, 2048, 2049, 4096, Integer.MAX_VALUE, Integer.MAX_VALUE - 7, Integer.MIN_VALUE};
        for (int at : wrongPlaces) {
            refused(at, 1);
            refused(at, 8);
        }
        Due.end();
    }

    private static void lowestFirst(int n, int at) {
        ChainLoader x = new ChainLoader();
        Due.due("poke(" + at + ", .., " + n + ")", x.poke(at, EIGHT, n), true);
        for (int k = -8; k < 16; k++) {
            if (at + k >= 0 && at + k < 2048) {
                long want = k >= 0 && k < n ? EIGHT >>> 8 * k & 255 : 0;
                Due.due("peek(" + (at + k) + ") after n " + n, x.peek(at + k), want);
            }
        }
    }

    private static void refused(int at, int n) {
        ChainLoader x = new ChainLoader();
        x.poke(0, 1, 1);
        x.poke(2040, -1, 8);
        Due.due("poke(" + at + ", 0x42.., " + n + ")", x.poke(at, 0x4242424242424242L, n), false);
        Due.due("peek(0) after a refused poke", x.peek(0), 1);
        Due.due("peek(100) after a refused poke", x.peek(100), 0);
        for (int k = 2040; k < 2048; k++) {
            Due.due("peek(" + k + ") after a refused poke", x.peek(k), 255);
        }
    }
}

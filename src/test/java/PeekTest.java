/** Promise 3. */
public final class PeekTest {
    public static void main(String[] args) {
        ChainLoader x = new ChainLoader();
        int[] values = {0, 1, 127, 128, 229, 255};
        for (int value : values) {
            x.poke(0, value, 1);
            x.poke(2047, value, 1);
            Due.due("peek(0)", x.peek(0), value);
            Due.due("peek(2047)", x.peek(2047), value);
        }
        int[] nowhere = {-1, -2, 2048, 2049, Integer.MAX_VALUE, Integer.MIN_VALUE};
        for (int at : nowhere) {
            Due.due("peek(" + at + ")", x.peek(at), ChainLoader.BAD);
        }
        Due.end();
    }
}

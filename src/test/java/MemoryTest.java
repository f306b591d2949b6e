/** Promise 12, and with it what is in memory after loading. */
public final class MemoryTest {
    private static final int MARK = 732803074;

    public static void main(String[] args) {
        places();
        whole();
        information();
        arguments();
        behindTheFile();
        clearedBefore();
        stays();
        Due.end();
    }

    private static Image with(String text, byte[] kernel) {
        return new Image().text(2, 0, "BOOT", text, 10, 11, 12).file(2, 1, "K", kernel, 20, 21, 22)
            .file(2, 2, "L", Image.kernel(50, 8, 2, 900, 901), 30, 31);
    }

    private static ChainLoader booted(Image image, int want) {
        ChainLoader x = image.loader();
        Due.due("boot()", x.boot(), want);
        return x;
    }

    private static void places() {
        ChainLoader x = booted(with("K=K", Image.kernel(64, 0, 0, 960, 960)), 0);
        int[] nowhere = {-1, -1024, 1024, 1025, 2047, Integer.MAX_VALUE, Integer.MIN_VALUE};
        for (int at : nowhere) {
            Due.due("memory(" + at + ")", x.memory(at), ChainLoader.BAD);
        }
        Due.due("memory(1023)", x.memory(1023), 63 * 7 + 1 & 255);
        Due.due("memory(0)", x.memory(0), MARK & 255);
    }

    private static void whole() {
        byte[] kernel = Image.kernel(70, 4, 3, 112, 150);
        byte[] want = new byte[1024];
        System.arraycopy(kernel, 0, want, 112, 70);
        int[] ints = {MARK, 1024, 32, 112, 182, 0, -(MARK + 1024 + 32 + 112 + 182)};
        for (int k = 0; k < 7; k++) {
            Image.intInto(want, 4 * k, ints[k]);
        }
        want[32] = 'x';
        want[33] = (byte) 255;
        want[34] = ' ';
        for (int from = 0; from < 1024; from += 256) {
            ChainLoader x = booted(with("A=x\u00ff \nK=K", kernel), 0);
            for (int at = from; at < from + 256; at++) {
                Due.due("memory(" + at + ")", x.memory(at), want[at] & 255);
            }
        }
    }

    private static void dueInts(String what, ChainLoader x, int... want) {
        int sum = 0;
        for (int k = 0; k < 6; k++) {
            Due.due("the int at " + 4 * k + ", " + what, Image.intAt(x, 4 * k), want[k]);
            sum += want[k];
        }
        Due.due("the int at 24, " + what, Image.intAt(x, 24), -sum);
        Due.due("the int at 28, " + what, Image.intAt(x, 28), 0);
    }

    private static void information() {
        for (int flags = 0; flags < 4; flags++) {
            ChainLoader x = booted(with("K=K", Image.kernel(40, 0, flags, 64, 64)), 0);
            dueInts("flags " + flags, x, MARK, flags >= 2 ? 1024 : 0, 0, 64, 104, 0);
        }
        dueInts("the other one", booted(with("K=X\nF=L", new byte[1]), 1), MARK, 1024, 0, 900, 950, 0);
        for (int number = 0; number < 3; number++) {
            Image image = with("K=K", Image.kernel(40, 0, 0, 200, 200)).record(0, 0, 0, 0, 0).record(number, 128, 12, 1, 63);
            dueInts("record " + number, booted(image, 0), MARK, 0, 0, 200, 240, number);
        }
        Image inactive = with("K=K", Image.kernel(40, 0, 0, 200, 200)).record(0, 0, 11, 1, 63).record(1, 0, 12, 1, 63);
        dueInts("record 1, not active", booted(inactive, 0), MARK, 0, 0, 200, 240, 1);
    }

    private static void dueArguments(String text, String want) {
        ChainLoader x = booted(with(text, Image.kernel(40, 0, 0, 64, 64)), 0);
        String call = "arguments of " + text.replace('\n', '|');
        Due.due(call + ", place", Image.intAt(x, 8), want.isEmpty() ? 0 : 32);
        for (int k = 0; k < 32; k++) {
            Due.due(call + ", byte " + k, x.memory(32 + k), k < want.length() ? want.charAt(k) : 0);
        }
    }

    private static void arguments() {
        dueArguments("K=K", "");
        dueArguments("K=K\nA=", "");
        dueArguments("K=K\nA=z", "z");
        dueArguments("K=K\nA=z\n", "z");
        dueArguments("A=one two=3\nK=K", "one two=3");
        dueArguments("A=one\nK=K\nA=2", "2");
        dueArguments("A=one\nK=K\nA=", "");
        dueArguments("A=\nK=K\nA=#\n", "#");
        dueArguments("K=K\nA=123456789012345678901234", "123456789012345678901234");
        dueArguments("K=K\nA=\r", "\r");
        dueArguments("K=K\na=z", "");
    }

    /** What lies behind a file in its chain is not loaded. */
    private static void behindTheFile() {
        int[] sizes = {33, 63, 64, 65, 95, 96};
        for (int size : sizes) {
            Image image = with("K=K", new byte[0]);
            for (int at = image.place(20); at < image.place(23); at++) {
                image.put(at, 77);
            }
            image.file(2, 1, "K", Image.kernel(size, 0, 0, 500, 500), 20, 21, 22);
            ChainLoader x = booted(image, 0);
            Due.due("the last byte of " + size, x.memory(500 + size - 1), (size - 1) * 7 + 1 & 255);
            Due.due("the byte behind " + size, x.memory(500 + size), 0);
            Due.due("the byte before", x.memory(499), 0);
        }
    }

    private static void clearedBefore() {
        ChainLoader x = booted(with("K=L\nA=aaaa", Image.kernel(40, 0, 0, 64, 64)), 0);
        Due.due("memory(32)", x.memory(32), 'a');
        Due.due("memory(901)", x.memory(901), 8);
        x.poke(new Image().place(10), 'K' | '=' << 8 | 'K' << 16 | '\n' << 24, 4);
        x.poke(new Image().place(10) + 4, '#', 1);
        Due.due("boot()", x.boot(), 0);
        dueInts("loaded again", x, MARK, 0, 0, 64, 104, 0);
        Due.due("memory(32) of the first", x.memory(32), 0);
        Due.due("memory(901) of the first", x.memory(901), 0);
        Due.due("memory(103) of the second", x.memory(103), 39 * 7 + 1 & 255);
    }

    private static void stays() {
        ChainLoader x = booted(with("K=K\nA=a", Image.kernel(40, 0, 0, 64, 70)), 0);
        x.poke(new Image().place(20), 0, 8);
        Due.due("boot() of what is no kernel any more", x.boot(), ChainLoader.BAD_HEADER);
        dueInts("nothing loaded", x, MARK, 0, 32, 64, 104, 0);
        Due.due("memory(64)", x.memory(64), Image.MARK & 255);
        Due.due("memory(32)", x.memory(32), 'a');
        x.poke(30, 0, 1);
        Due.due("boot() of no disk", x.boot(), ChainLoader.NO_DISK);
        Due.due("memory(64)", x.memory(64), Image.MARK & 255);
        ChainLoader fresh = booted(with("K=X", Image.kernel(40, 0, 0, 64, 70)), ChainLoader.ABSENT);
        Due.due("memory(0) with nothing loaded", fresh.memory(0), 0);
    }
}

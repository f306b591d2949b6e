import java.nio.charset.StandardCharsets;

/** Promise 11, and with it settings and what can be loaded. */
public final class BootTest {
    private static final int LOADED = 0;
    private static final int OTHER = 1;

    public static void main(String[] args) {
        volumeFirst();
        settingsFile();
        settingsLines();
        settingsLength();
        paths();
        headers();
        headerPlaces();
        rooms();
        other();
        again();
        unchanged();
        Due.end();
    }

    private static void due(String what, Image image, int want) {
        Due.due("boot(), " + what, image.loader().boot(), want);
    }

    /** BOOT with such a text, a good kernel K, another one in the directory D, and a file N that is none. */
    private static Image with(String text) {
        return with(text, Image.kernel(40, 4, 0, 128, 130));
    }

    private static Image with(String text, byte[] kernel) {
        return new Image()
            .text(2, 0, "BOOT", text, 10, 11, 12, 13, 14, 15, 16)
            .file(2, 1, "K", kernel, 20, 21, 22)
            .entry(2, 2, "D", Image.DIRECTORY, 3, 0).chain(3)
            .file(3, 0, "K2", Image.kernel(33, 12, 3, 256, 288), 30, 31)
            .text(2, 3, "N", "no kernel, but long enough to hold a header", 32, 33);
    }

    private static void volumeFirst() {
        due("no disk", with("K=K").put(30, 0), ChainLoader.NO_DISK);
        due("no partition", with("K=K").put(7, 0), ChainLoader.NO_PARTITION);
        due("bad volume", with("K=K").volume(0, 0), ChainLoader.BAD_VOLUME);
        due("good", with("K=K"), LOADED);
    }

    private static void settingsFile() {
        due("no BOOT", with("K=K").entry(2, 0, "BOOS", Image.FILE, 10, 3), ChainLoader.ABSENT);
        due("BOOT passed over", with("K=K").entry(2, 0, "BOOT", Image.PASSED, 10, 3), ChainLoader.ABSENT);
        due("BOOT a directory", with("K=K").entry(2, 0, "BOOT", Image.DIRECTORY, 10, 3), ChainLoader.IS_DIRECTORY);
        due("the root broken", with("K=K").link(2, 2), ChainLoader.BROKEN);
        due("BOOT's chain broken", with("K=K").link(16, 0), ChainLoader.BROKEN);
        due("BOOT too short", with("K=K").chain(10).entry(2, 0, "BOOT", Image.FILE, 10, 33), ChainLoader.BROKEN);
        due("BOOT broken and too long", with("K=K").entry(2, 0, "BOOT", Image.FILE, 10, 999), ChainLoader.BROKEN);
        due("BOOT empty", with("").entry(2, 0, "BOOT", Image.FILE, 0, 0), ChainLoader.BAD_SETTINGS);
        due("the first of two", with("K=K").text(2, 3, "BOOT", "K=Z", 40), LOADED);
    }

    private static void settingsLines() {
        String[] good = {"K=K", "K=K\n", "\n\nK=K\n\n", "#\nK=K", "# anything, K=Z\nK=K", "#K=Z\nK=K", "Z=\nK=K", "k=Z\nK=K",
            "K=K\nk=Z", "K=K\n1=2=3", "==\nK=K", " =x\nK=K", "K=Z\nK=K", "K=\nK=K", "K=Z\nZ=Z\nK=Z\nK=K", "K=K\nA=", "K=K\n\r=",
            "A=Z\nK=K\nF=Z", "A=123456789012345678901234\nK=K", "K=K\n\u00ff=\u00ff", "K=K\nB=1234567890123456789012345"};
        for (String text : good) {
            due("settings " + text.replace('\n', '|'), with(text), LOADED);
        }
        String[] bad = {"\n", "#", "# K=K", "Z=K", "k=K", "F=K", "A=K", "K", "=", "K=K\nK", "K=K\nZ", "K=K\n ", "K=K\nZZ", "K=K\nZZ=",
            "K =K", " K=K", "K=K\n #", "K=K\n=", "KK", "K:K", "K=K\n\r", "K=K\n\0", "K=K\nA=1234567890123456789012345",
            "A=1234567890123456789012345\nA=1\nK=K", "K=K\nZZ\n", "\rK=K", "A=1\nF=K", "KEY=K"};
        for (String text : bad) {
            due("settings " + text.replace('\n', '|'), with(text), ChainLoader.BAD_SETTINGS);
        }
        due("the last K counts", with("K=K\nK=Z"), ChainLoader.ABSENT);
        due("the last K counts, empty", with("K=K\nK="), ChainLoader.BAD_PATH);
        due("the last F counts", with("F=K\nK=Z\nF=N"), ChainLoader.BAD_HEADER);
        due("the last F counts", with("F=N\nK=Z\nF=K"), OTHER);
        due("the last line of the file ends with it", with("K=KX").entry(2, 0, "BOOT", Image.FILE, 10, 3), LOADED);
    }

    private static String filledUp(int length) {
        StringBuilder text = new StringBuilder("K=K\n#");
        while (text.length() < length) {
            text.append('x');
        }
        return text.toString();
    }

    private static void settingsLength() {
        due("199 bytes", with(filledUp(199)), LOADED);
        due("200 bytes", with(filledUp(200)), LOADED);
        due("201 bytes", with(filledUp(201)), ChainLoader.BAD_SETTINGS);
        due("224 bytes", with(filledUp(224)), ChainLoader.BAD_SETTINGS);
        due("K at the end of 200 bytes", with("K=Z\n" + filledUp(196).replace("K=K", "#__").substring(0, 192) + "\nK=K"), LOADED);
    }

    private static void paths() {
        String[] none = {"", "/K", "K/", "D//K2", "k", "K ", " K", "KKKKK", "D/D/D/D/D", "K\r", "K=K", "K,", "\u00cb", "A/B/C/D/E/F/G/H/I/J/K/L"};
        for (String path : none) {
            due("path " + path, with("K=" + path), ChainLoader.BAD_PATH);
        }
        due("path below", with("K=D/K2"), LOADED);
        due("absent", with("K=X"), ChainLoader.ABSENT);
        due("absent below", with("K=D/X"), ChainLoader.ABSENT);
        due("longer than any path text", with("K=AAAA/BBBB/CCCC/DDDD"), ChainLoader.ABSENT);
        due("below a file", with("K=K/K"), ChainLoader.NOT_DIRECTORY);
        due("a directory", with("K=D"), ChainLoader.IS_DIRECTORY);
        due("a directory broken", with("K=D/K2").link(3, 0), ChainLoader.BROKEN);
        due("the kernel's chain broken", with("K=K").link(22, 20), ChainLoader.BROKEN);
        due("the kernel too short", with("K=K").chain(20), ChainLoader.BROKEN);
        due("an empty kernel", with("K=K").entry(2, 1, "K", Image.FILE, 20, 0), ChainLoader.BAD_HEADER);
        due("BOOT is no kernel", with("K=BOOT"), ChainLoader.BAD_HEADER);
    }

    private static void dueKernel(String what, byte[] kernel, int want) {
        due(what, with("K=K", kernel), want);
    }

    private static byte[] changed(byte[] kernel, int at, int value) {
        Image.intInto(kernel, at, value);
        return kernel;
    }

    private static void headers() {
        for (int flags = 0; flags < 4; flags++) {
            dueKernel("flags " + flags, Image.kernel(40, 0, flags, 128, 128), LOADED);
            boolean aligned = (flags & 1) != 0;
            dueKernel("flags " + flags + ", address 136", Image.kernel(40, 0, flags, 136, 136),
                aligned ? ChainLoader.BAD_HEADER : LOADED);
            dueKernel("flags " + flags + ", address 129", Image.kernel(40, 0, flags, 129, 129),
                aligned ? ChainLoader.BAD_HEADER : LOADED);
        }
        int[] wrongFlags = {4, 5, 6, 7, 8, 16, 256, 65536, Integer.MIN_VALUE, -1, -4};
        for (int flags : wrongFlags) {
            dueKernel("flags " + flags, Image.kernel(40, 0, flags, 128, 128), ChainLoader.BAD_HEADER);
        }
        int check = -(Image.MARK + 2);
        dueKernel("the check", changed(Image.kernel(40, 0, 2, 128, 128), 8, check), LOADED);
        dueKernel("the check, one more", changed(Image.kernel(40, 0, 2, 128, 128), 8, check + 1), ChainLoader.BAD_HEADER);
        dueKernel("the check, highest bit", changed(Image.kernel(40, 0, 2, 128, 128), 8, check ^ 1 << 31), ChainLoader.BAD_HEADER);
        dueKernel("flags without the check", changed(Image.kernel(40, 0, 2, 128, 128), 4, 3), ChainLoader.BAD_HEADER);
        dueKernel("another mark", changed(Image.kernel(40, 0, 2, 128, 128), 0, Image.MARK + 1), ChainLoader.BAD_HEADER);
        dueKernel("mark with its highest bit", changed(Image.kernel(40, 0, 2, 128, 128), 0, Image.MARK ^ 1 << 31), ChainLoader.BAD_HEADER);
    }

    private static void headerPlaces() {
        for (int p = 0; p <= 40; p++) {
            dueKernel("header at " + p, Image.kernel(80, p, 0, 128, 128),
                p % 4 == 0 && p <= 28 ? LOADED : ChainLoader.BAD_HEADER);
        }
        for (int p = 0; p <= 28; p += 4) {
            dueKernel("header at " + p + " up to the size", Image.kernel(p + 20, p, 0, 128, 128), LOADED);
            dueKernel("header at " + p + " beyond the size", Image.kernel(p + 19, p, 0, 128, 128), ChainLoader.BAD_HEADER);
        }
        byte[] badFirst = Image.kernel(80, 24, 0, 128, 128);
        dueKernel("good at 24", badFirst, LOADED);
        dueKernel("bad at 0, good at 24", changed(badFirst, 0, Image.MARK), ChainLoader.BAD_HEADER);
        byte[] goodFirst = changed(Image.kernel(80, 4, 0, 128, 128), 24, Image.MARK);
        dueKernel("good at 4, bad at 24", goodFirst, LOADED);
    }

    private static void rooms() {
        int[] low = {63, 48, 16, 0, -1, -16, Integer.MIN_VALUE};
        for (int address : low) {
            dueKernel("address " + address, Image.kernel(40, 0, 0, address, address), ChainLoader.NO_ROOM);
            dueKernel("address " + address + ", entry 64", Image.kernel(40, 0, 0, address, 64), ChainLoader.NO_ROOM);
        }
        dueKernel("address 64", Image.kernel(40, 0, 0, 64, 64), LOADED);
        dueKernel("up to the end", Image.kernel(40, 0, 0, 984, 984), LOADED);
        int[] high = {985, 1000, 1023, 1024, 2000, Integer.MAX_VALUE, Integer.MAX_VALUE - 39, Integer.MAX_VALUE - 40};
        for (int address : high) {
            dueKernel("address " + address, Image.kernel(40, 0, 0, address, address), ChainLoader.NO_ROOM);
        }
        dueKernel("entry at the last byte", Image.kernel(40, 0, 0, 128, 167), LOADED);
        int[] outside = {168, 127, 0, -1, 1023, Integer.MAX_VALUE, Integer.MIN_VALUE};
        for (int entry : outside) {
            dueKernel("entry " + entry, Image.kernel(40, 0, 0, 128, entry), ChainLoader.NO_ROOM);
        }
        dueKernel("bad header before no room", Image.kernel(40, 0, 1, 17, 0), ChainLoader.BAD_HEADER);
        dueKernel("aligned, but no room", Image.kernel(40, 0, 1, -16, -16), ChainLoader.NO_ROOM);
        large();
    }

    private static void large() {
        int[] clusters = new int[31];
        for (int k = 0; k < clusters.length; k++) {
            clusters[k] = 20 + k;
        }
        Image base = new Image().text(2, 0, "BOOT", "K=K", 3);
        due("960 bytes", base.file(2, 1, "K", Image.kernel(960, 0, 0, 64, 1023), clusters), LOADED);
        due("961 bytes", base.file(2, 1, "K", Image.kernel(961, 0, 0, 64, 64), clusters), ChainLoader.NO_ROOM);
    }

    private static void other() {
        due("K and F good", with("K=K\nF=D/K2"), LOADED);
        due("K absent, F good", with("K=X\nF=D/K2"), OTHER);
        due("F before K", with("F=D/K2\nK=X"), OTHER);
        due("K no path", with("K=\nF=K"), OTHER);
        due("K a directory", with("K=D\nF=K"), OTHER);
        due("K without a header", with("K=N\nF=K"), OTHER);
        due("K broken", with("K=K\nF=D/K2").link(20, 0), OTHER);
        due("K without room", with("K=K\nF=D/K2", Image.kernel(40, 0, 0, 0, 0)), OTHER);
        due("F absent", with("K=N\nF=X"), ChainLoader.ABSENT);
        due("F no path", with("K=X\nF="), ChainLoader.BAD_PATH);
        due("F a directory", with("K=X\nF=D"), ChainLoader.IS_DIRECTORY);
        due("F without a header", with("K=X\nF=N"), ChainLoader.BAD_HEADER);
        due("F without room", with("K=X\nF=K", Image.kernel(40, 0, 0, 0, 0)), ChainLoader.NO_ROOM);
        due("no F", with("K=N"), ChainLoader.BAD_HEADER);
        due("no K", with("F=K"), ChainLoader.BAD_SETTINGS);
    }

    private static void rewrite(ChainLoader x, String text) {
        byte[] bytes = text.getBytes(StandardCharsets.ISO_8859_1);
        for (int k = 0; k < bytes.length; k++) {
            x.poke(new Image().place(10) + k, bytes[k], 1);
        }
        x.poke(new Image().entryPlace(2, 0) + 6, bytes.length, 2);
    }

    /** Settings that were read before say nothing any more. */
    private static void again() {
        ChainLoader x = with("K=X\nF=K").loader();
        Due.due("boot() with F", x.boot(), OTHER);
        rewrite(x, "K=X\n#=K");
        Due.due("boot() when F is gone", x.boot(), ChainLoader.ABSENT);
        rewrite(x, "K=K\n#=K");
        Due.due("boot() with K", x.boot(), LOADED);
        rewrite(x, "#=K\nF=K");
        Due.due("boot() when K is gone", x.boot(), ChainLoader.BAD_SETTINGS);
        rewrite(x, "K=K\nF=K");
        Due.due("boot() with both", x.boot(), LOADED);
        rewrite(x, "K=K\nF");
        Due.due("boot() when the last line lost its =", x.boot(), ChainLoader.BAD_SETTINGS);
        rewrite(x, "K=KX");
        Due.due("boot() with another K", x.boot(), ChainLoader.ABSENT);
    }

    private static void unchanged() {
        ChainLoader x = with("K=K").loader("Z");
        int before = x.peek(new Image().place(20));
        Due.due("boot()", x.boot(), LOADED);
        Due.due("boot() again", x.boot(), LOADED);
        Due.due("peek after boot()", x.peek(new Image().place(20)), before);
        Due.due("scrap() after boot()", x.scrap(), 1);
    }
}

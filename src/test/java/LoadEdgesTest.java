/** The edges of "LOADING" and of promises 11, 12 and 13. Each method tests one sentence. */
public final class LoadEdgesTest {
    private static final int LOADED = 0;
    private static final int OTHER = 1;
    private static final int INFORMATION = 732803074;

    public static void main(String[] args) {
        orderOfReasons();
        headerPlaces();
        headerEndsWithTheFile();
        firstPlaceCounts();
        headerHasTheMark();
        sumIsZero();
        flagsAre1And2();
        addressIsAMultipleOf16();
        badHeaderComesBeforeNoRoom();
        addressIsAtLeast64();
        fileFitsIntoMemory();
        largestFile();
        entryIsThePlaceOfAByte();
        placesThatWrapHaveNoRoom();
        fileFromTheAddressOn();
        allOfMemoryBecomes0();
        informationInts();
        recordNumber();
        argumentsFrom32On();
        otherKernel();
        memoryAndEntryStay();
        entryOfWhatWasLoadedLast();
        pathTextAndDiskStay();
        Due.end();
    }

    /** BOOT with such a text, a kernel K, a good kernel L of 24 bytes, and a directory D. */
    private static Image with(String text, byte[] kernel) {
        return new Image().text(2, 0, "BOOT", text, 10, 11, 12).file(2, 1, "K", kernel, 20, 21, 22)
            .file(2, 2, "L", Image.kernel(24, 0, 0, 320, 321), 30).entry(2, 3, "D", Image.DIRECTORY, 40, 0).chain(40);
    }

    private static void due(String what, byte[] kernel, int want) {
        Due.due("boot(), " + what, with("K=K", kernel).loader().boot(), want);
    }

    private static byte[] changed(byte[] kernel, int at, int value) {
        Image.intInto(kernel, at, value);
        return kernel;
    }

    private static byte[] good() {
        return Image.kernel(40, 0, 0, 64, 64);
    }

    /** "BAD_PATH if it is none; what finding it says; IS_DIRECTORY; BROKEN if its content is." */
    private static void orderOfReasons() {
        String[] paths = {"", "k", "X", "K/X", "D/X", "D", "K"};
        int[] want = {ChainLoader.BAD_PATH, ChainLoader.BAD_PATH, ChainLoader.ABSENT, ChainLoader.NOT_DIRECTORY, ChainLoader.ABSENT,
            ChainLoader.IS_DIRECTORY, LOADED};
        for (int k = 0; k < paths.length; k++) {
            Due.due("boot() of " + paths[k], with("K=" + paths[k], good()).loader().boot(), want[k]);
        }
        Due.due("boot() in a broken directory", with("K=D/X", good()).link(40, 0).loader().boot(), ChainLoader.BROKEN);
        Due.due("boot() of a broken directory", with("K=D", good()).link(40, 0).loader().boot(), ChainLoader.IS_DIRECTORY);
        Due.due("boot() of a broken content", with("K=K", new byte[40]).link(22, 0).loader().boot(), ChainLoader.BROKEN);
        Due.due("boot() of a whole content", with("K=K", new byte[40]).loader().boot(), ChainLoader.BAD_HEADER);
        Due.due("boot() of a content too short", with("K=K", good()).chain(20).loader().boot(), ChainLoader.BROKEN);
        Due.due("boot() of size 0", with("K=K", good()).entry(2, 1, "K", Image.FILE, 20, 0).loader().boot(), ChainLoader.BAD_HEADER);
        Due.due("boot() of size 0 from nowhere", with("K=K", good()).entry(2, 1, "K", Image.FILE, 0, 0).loader().boot(),
            ChainLoader.BAD_HEADER);
    }

    /** "The HEADER is at the first p of 0, 4, 8, .., 28" */
    private static void headerPlaces() {
        for (int p = 0; p <= 60; p++) {
            boolean there = p % 4 == 0 && p <= 28;
            due("header at " + p, Image.kernel(96, p, 0, 64, 64), there ? LOADED : ChainLoader.BAD_HEADER);
        }
    }

    /** "with p + 20 at most the size" */
    private static void headerEndsWithTheFile() {
        for (int p = 0; p <= 28; p += 4) {
            for (int size = p + 17; size <= p + 23; size++) {
                // The bytes behind the file are those of a whole header too, so that only the size can tell.
                Image image = with("K=K", Image.kernel(p + 20, p, 0, 64, 64)).entry(2, 1, "K", Image.FILE, 20, size);
                Due.due("boot(), header at " + p + " of " + size, image.loader().boot(), size >= p + 20 ? LOADED : ChainLoader.BAD_HEADER);
            }
        }
        due("19 bytes", Image.kernel(19, 0, 0, 64, 64), ChainLoader.BAD_HEADER);
        due("1 byte", Image.kernel(1, 0, 0, 64, 64), ChainLoader.BAD_HEADER);
    }

    /** "the first p": one that is no good is not made up for by a later one. */
    private static void firstPlaceCounts() {
        for (int p = 0; p < 28; p += 4) {
            byte[] kernel = changed(Image.kernel(96, 28, 0, 64, 64), p, Image.MARK);
            due("a mark at " + p + " before the header", kernel, ChainLoader.BAD_HEADER);
        }
        for (int p = 4; p <= 8; p += 4) {
            byte[] both = Image.kernel(96, 0, 0, 128, 130);
            byte[] later = Image.kernel(96, 20 + p, 0, 256, 260);
            System.arraycopy(later, 20 + p, both, 20 + p, 20);
            ChainLoader x = with("K=K", both).loader();
            Due.due("boot() of two headers", x.boot(), LOADED);
            Due.due("entry() of two headers", x.entry(), 130);
        }
        due("a mark at 32 behind no header", changed(new byte[96], 32, Image.MARK), ChainLoader.BAD_HEADER);
    }

    /** "and the int 464367618 at p": BAD_HEADER if there is none, whatever else would be right. */
    private static void headerHasTheMark() {
        for (int bit = 0; bit < 32; bit++) {
            due("the mark with bit " + bit + " changed", changed(good(), 0, Image.MARK ^ 1 << bit), ChainLoader.BAD_HEADER);
        }
        for (int at = 0; at <= 40; at++) {
            byte[] kernel = new byte[64];
            int[] ints = {0, -Image.MARK, 64, 64};
            for (int k = 0; k < 4; k++) {
                Image.intInto(kernel, at + 4 * k, ints[k]);
            }
            due("flags, check, address and entry from " + at + " on", kernel, ChainLoader.BAD_HEADER);
        }
    }

    /** "or if that int and the two behind it .. do not sum up to 0 (as ints wrap)" */
    private static void sumIsZero() {
        for (int flags = 0; flags < 4; flags++) {
            int check = -(Image.MARK + flags);
            due("flags " + flags, changed(Image.kernel(40, 0, flags, 64, 64), 8, check), LOADED);
            for (int bit = 0; bit < 32; bit++) {
                due("flags " + flags + ", the check with bit " + bit, changed(Image.kernel(40, 0, flags, 64, 64), 8, check ^ 1 << bit),
                    ChainLoader.BAD_HEADER);
            }
            int[] wrong = {0, check + 1, check - 1, -check, Image.MARK, Integer.MIN_VALUE, Integer.MAX_VALUE};
            for (int value : wrong) {
                due("flags " + flags + ", the check " + value, changed(Image.kernel(40, 0, flags, 64, 64), 8, value), ChainLoader.BAD_HEADER);
            }
        }
    }

    /** "or if the flags have bits other than 1 and 2": the check is right each time. */
    private static void flagsAre1And2() {
        for (int flags = 0; flags < 4; flags++) {
            due("flags " + flags, Image.kernel(40, 0, flags, 64, 64), LOADED);
            for (int bit = 2; bit < 32; bit++) {
                due("flags " + flags + " and bit " + bit, Image.kernel(40, 0, flags | 1 << bit, 64, 64), ChainLoader.BAD_HEADER);
            }
        }
        due("all flags", Image.kernel(40, 0, -1, 64, 64), ChainLoader.BAD_HEADER);
    }

    /** "or if they have bit 1 and the next int, the ADDRESS, is no multiple of 16" */
    private static void addressIsAMultipleOf16() {
        for (int address = 64; address <= 984; address++) {
            boolean multiple = address % 16 == 0;
            if (multiple || address < 100 || address > 960) {
                due("flags 0, address " + address, Image.kernel(40, 0, 0, address, address), LOADED);
                due("flags 1, address " + address, Image.kernel(40, 0, 1, address, address), multiple ? LOADED : ChainLoader.BAD_HEADER);
                due("flags 2, address " + address, Image.kernel(40, 0, 2, address, address), LOADED);
                due("flags 3, address " + address, Image.kernel(40, 0, 3, address, address), multiple ? LOADED : ChainLoader.BAD_HEADER);
            }
        }
    }

    /** A multiple of 16 that has no room is NO_ROOM, any other address of flags 1 is BAD_HEADER, be there room or not. */
    private static void badHeaderComesBeforeNoRoom() {
        int[] addresses = {0, 16, 48, -16, 1024, 1008, Integer.MIN_VALUE, Integer.MAX_VALUE - 15};
        for (int address : addresses) {
            due("flags 1, address " + address, Image.kernel(40, 0, 1, address, address), ChainLoader.NO_ROOM);
            due("flags 1, address " + (address + 1), Image.kernel(40, 0, 1, address + 1, address), ChainLoader.BAD_HEADER);
            due("flags 1, address " + (address + 15), Image.kernel(40, 0, 1, address + 15, address), ChainLoader.BAD_HEADER);
            due("flags 0, address " + (address + 1), Image.kernel(40, 0, 0, address + 1, address), ChainLoader.NO_ROOM);
        }
        due("flags 1, address 80, entry 0", Image.kernel(40, 0, 1, 80, 0), ChainLoader.NO_ROOM);
        due("flags 1, address 88, entry 0", Image.kernel(40, 0, 1, 88, 0), ChainLoader.BAD_HEADER);
    }

    /** "NO_ROOM if the address is less than 64" */
    private static void addressIsAtLeast64() {
        int[] low = {63, 62, 32, 1, 0, -1, -64, Integer.MIN_VALUE, 64 | Integer.MIN_VALUE};
        for (int address : low) {
            due("address " + address, Image.kernel(40, 0, 0, address, address + 39), ChainLoader.NO_ROOM);
            due("address " + address, Image.kernel(40, 0, 0, address, 64), ChainLoader.NO_ROOM);
        }
        due("address 64", Image.kernel(40, 0, 0, 64, 64), LOADED);
        due("address 65", Image.kernel(40, 0, 0, 65, 65), LOADED);
    }

    /** "the file does not fit into memory from there on" */
    private static void fileFitsIntoMemory() {
        for (int size = 20; size <= 96; size++) {
            due(size + " bytes up to 1023", Image.kernel(size, 0, 0, 1024 - size, 1023), LOADED);
            due(size + " bytes up to 1024", Image.kernel(size, 0, 0, 1025 - size, 1023), ChainLoader.NO_ROOM);
            due(size + " bytes from 1024", Image.kernel(size, 0, 0, 1024, 1024), ChainLoader.NO_ROOM);
        }
        ChainLoader x = with("K=K", Image.kernel(40, 0, 0, 984, 1023)).loader();
        Due.due("boot() up to 1023", x.boot(), LOADED);
        Due.due("memory(983)", x.memory(983), 0);
        Due.due("memory(984)", x.memory(984), Image.MARK & 255);
        Due.due("memory(1023)", x.memory(1023), 39 * 7 + 1 & 255);
        Due.due("memory(1024)", x.memory(1024), ChainLoader.BAD);
    }

    /** All that there is room for, and one byte more. */
    private static void largestFile() {
        int[] clusters = new int[40];
        for (int k = 0; k < clusters.length; k++) {
            clusters[k] = 19 + k;
        }
        int[] sizes = {959, 960, 961, 1024, 1025, 1280};
        for (int size : sizes) {
            byte[] kernel = Image.kernel(size, 0, 1, 64, 64);
            ChainLoader x = new Image().text(2, 0, "BOOT", "K=K\nA=" + "z".repeat(24), 3).file(2, 1, "K", kernel, clusters).loader();
            Due.due("boot(), " + size + " bytes", x.boot(), size <= 960 ? LOADED : ChainLoader.NO_ROOM);
            Due.due("memory(55), " + size + " bytes", x.memory(55), size <= 960 ? 'z' : 0);
            Due.due("memory(64), " + size + " bytes", x.memory(64), size <= 960 ? Image.MARK & 255 : 0);
            Due.due("memory(1023), " + size + " bytes", x.memory(1023), size == 960 ? 959 * 7 + 1 & 255 : 0);
            Due.due("the int at 16, " + size + " bytes", Image.intAt(x, 16), size <= 960 ? 64 + size : 0);
        }
    }

    /** "or the entry is not the place of one of its bytes" */
    private static void entryIsThePlaceOfAByte() {
        int[] inside = {128, 129, 166, 167};
        for (int entry : inside) {
            due("entry " + entry, Image.kernel(40, 0, 0, 128, entry), LOADED);
        }
        int[] outside = {127, 168, 126, 169, 64, 0, -1, 1023, 1024, 128 - 256, 128 + 65536, Integer.MAX_VALUE, Integer.MIN_VALUE};
        for (int entry : outside) {
            due("entry " + entry, Image.kernel(40, 0, 0, 128, entry), ChainLoader.NO_ROOM);
        }
        due("entry 1023, up to 1023", Image.kernel(40, 0, 0, 984, 1023), LOADED);
        due("entry 1024, up to 1023", Image.kernel(40, 0, 0, 984, 1024), ChainLoader.NO_ROOM);
        due("entry 64, from 64", Image.kernel(40, 0, 0, 64, 64), LOADED);
        due("entry 63, from 64", Image.kernel(40, 0, 0, 64, 63), ChainLoader.NO_ROOM);
    }

    private static void placesThatWrapHaveNoRoom() {
        for (int less = 0; less <= 48; less += 8) {
            int address = Integer.MAX_VALUE - less;
            due("address " + address, Image.kernel(40, 0, 0, address, address), ChainLoader.NO_ROOM);
            due("address " + address + ", entry 64", Image.kernel(40, 0, 0, address, 64), ChainLoader.NO_ROOM);
            due("address " + address + ", entry lowest", Image.kernel(40, 0, 0, address, Integer.MIN_VALUE), ChainLoader.NO_ROOM);
        }
        int[] high = {1 << 16 | 64, 1 << 24 | 64, 1 << 30 | 64};
        for (int address : high) {
            due("address " + address, Image.kernel(40, 0, 0, address, address), ChainLoader.NO_ROOM);
        }
    }

    /** "the file's bytes from the address on": all of them, and none of what lies behind them in the cluster. */
    private static void fileFromTheAddressOn() {
        int[] sizes = {20, 31, 32, 33, 63, 64, 65, 95, 96};
        for (int size : sizes) {
            Image image = with("K=K", Image.kernel(96, 0, 0, 100, 100)).entry(2, 1, "K", Image.FILE, 20, size);
            ChainLoader x = image.loader();
            Due.due("boot()", x.boot(), LOADED);
            byte[] kernel = Image.kernel(96, 0, 0, 100, 100);
            for (int at = 64; at < 200; at++) {
                int k = at - 100;
                Due.due("memory(" + at + "), " + size + " bytes", x.memory(at), k >= 0 && k < size ? kernel[k] & 255 : 0);
            }
        }
    }

    /** "Otherwise all of memory becomes 0": what an earlier load left is gone, to the last byte. */
    private static void allOfMemoryBecomes0() {
        for (int from = 0; from < 1024; from += 256) {
            ChainLoader x = with("K=K\nA=" + "z".repeat(18), Image.kernel(96, 0, 3, 928, 1023)).loader();
            Due.due("boot()", x.boot(), LOADED);
            x.poke(new Image().place(10), 'K' | '=' << 8 | 'L' << 16 | '\n' << 24, 4);
            x.poke(new Image().place(10) + 4, '#', 1);
            Due.due("boot() of L", x.boot(), LOADED);
            for (int at = from; at < from + 256; at++) {
                if (at >= 28 && (at < 320 || at >= 344)) {
                    Due.due("memory(" + at + ")", x.memory(at), 0);
                }
            }
            Due.due("the int at 4", Image.intAt(x, 4), 0);
            Due.due("the int at 8", Image.intAt(x, 8), 0);
        }
    }

    private static void dueInts(String what, ChainLoader x, int... want) {
        int sum = 0;
        for (int k = 0; k < 7; k++) {
            int got = Image.intAt(x, 4 * k);
            sum += got;
            if (k < 6) {
                Due.due("the int at " + 4 * k + ", " + what, got, want[k]);
            }
        }
        Due.due("the sum of the seven ints, " + what, sum, 0);
    }

    /** "the ints 732803074 at 0, 1024 at 4 if the flags have bit 2, 32 at 8 if there are arguments, .." */
    private static void informationInts() {
        for (int flags = 0; flags < 4; flags++) {
            for (int arguments = 0; arguments <= 1; arguments++) {
                String text = arguments == 1 ? "K=K\nA=x" : "K=K\nA=";
                int[] addresses = {64, 256, 928};
                for (int address : addresses) {
                    ChainLoader x = with(text, Image.kernel(96, 8, flags, address, address)).loader();
                    Due.due("boot()", x.boot(), LOADED);
                    dueInts("flags " + flags + ", " + text.replace('\n', '|'), x, INFORMATION, flags >= 2 ? 1024 : 0, 32 * arguments,
                        address, address + 96, 0);
                    for (int at = 28; at < 32; at++) {
                        Due.due("memory(" + at + ")", x.memory(at), 0);
                    }
                }
            }
        }
    }

    /** "the record's number at 20" */
    private static void recordNumber() {
        for (int number = 0; number < 3; number++) {
            for (int active = 0; active <= 128; active += 128) {
                Image image = with("K=K", good()).record(0, 128, 11, 1, 63).record(number, active, 12, 1, 63);
                ChainLoader x = image.loader();
                Due.due("boot()", x.boot(), LOADED);
                dueInts("record " + number, x, INFORMATION, 0, 0, 64, 104, number);
            }
        }
    }

    /** "the arguments from 32 on": none, one, and 24 of them. */
    private static void argumentsFrom32On() {
        for (int count = 0; count <= 24; count++) {
            String letters = "abcdefghijklmnopqrstuvwxyz".substring(0, count);
            ChainLoader x = with("K=K\nA=" + letters, good()).loader();
            Due.due("boot()", x.boot(), LOADED);
            Due.due("the int at 8, " + count + " arguments", Image.intAt(x, 8), count == 0 ? 0 : 32);
            for (int k = 0; k < 32; k++) {
                Due.due("memory(" + (32 + k) + "), " + count + " arguments", x.memory(32 + k), k < count ? letters.charAt(k) : 0);
            }
            Due.due("memory(64)", x.memory(64), Image.MARK & 255);
        }
    }

    private static void dueText(String text, byte[] kernel, int want) {
        Due.due("boot(), " + text.replace('\n', '|'), with(text, kernel).loader().boot(), want);
    }

    /** "0 if that was done; else, if there is a line F, that of F: 1 if that was done; else why the last one could not be loaded." */
    private static void otherKernel() {
        dueText("K=K\nF=L", good(), LOADED);
        dueText("K=K\nF=X", good(), LOADED);
        dueText("K=K\nF=", good(), LOADED);
        String[] bad = {"", "k", "X", "D/X", "L/X", "D", "BOOT"};
        int[] why = {ChainLoader.BAD_PATH, ChainLoader.BAD_PATH, ChainLoader.ABSENT, ChainLoader.ABSENT, ChainLoader.NOT_DIRECTORY,
            ChainLoader.IS_DIRECTORY, ChainLoader.BAD_HEADER};
        for (int k = 0; k < bad.length; k++) {
            dueText("K=" + bad[k], good(), why[k]);
            dueText("K=" + bad[k] + "\nF=L", good(), OTHER);
            for (int other = 0; other < bad.length; other++) {
                dueText("K=" + bad[k] + "\nF=" + bad[other], good(), why[other]);
            }
            dueText("K=" + bad[k] + "\nF=K", Image.kernel(40, 0, 0, 63, 64), ChainLoader.NO_ROOM);
        }
        dueText("K=K\nF=L", Image.kernel(40, 0, 0, 63, 64), OTHER);
        dueText("K=K\nF=L", new byte[40], OTHER);
        dueText("K=K\nF=K", Image.kernel(40, 0, 0, 63, 64), ChainLoader.NO_ROOM);
    }

    /** "(Memory and entry stay as they were if nothing is loaded.)": for each reason. */
    private static void memoryAndEntryStay() {
        int root = new Image().entryPlace(2, 0);
        stays("no disk", 30, 0, 1, ChainLoader.NO_DISK);
        stays("no partition", 7, 0, 1, ChainLoader.NO_PARTITION);
        stays("bad volume", 32, 0, 1, ChainLoader.BAD_VOLUME);
        stays("no BOOT", root, 'X', 1, ChainLoader.ABSENT);
        stays("BOOT a directory", root + 4, 16, 1, ChainLoader.IS_DIRECTORY);
        stays("BOOT broken", new Image().linkPlace(0, 10), 0, 2, ChainLoader.BROKEN);
        stays("BOOT empty", root + 6, 0, 2, ChainLoader.BAD_SETTINGS);
        stays("a bad line", new Image().place(10) + 1, 'x', 1, ChainLoader.BAD_SETTINGS);
        stays("no path", new Image().place(10) + 2, 'k', 1, ChainLoader.BAD_PATH);
        stays("no file", new Image().place(10) + 2, 'X', 1, ChainLoader.ABSENT);
        stays("a directory", new Image().place(10) + 2, 'D', 1, ChainLoader.IS_DIRECTORY);
        stays("broken", new Image().linkPlace(0, 20), 0, 2, ChainLoader.BROKEN);
        stays("no header", new Image().place(20), 0, 1, ChainLoader.BAD_HEADER);
        stays("address 63", new Image().place(20) + 12, 63, 1, ChainLoader.NO_ROOM);
        stays("entry 104", new Image().place(20) + 16, 104, 1, ChainLoader.NO_ROOM);
    }

    private static void stays(String what, int at, int value, int n, int why) {
        ChainLoader fresh = with("K=K\nA=xyz", Image.kernel(40, 0, 2, 64, 77)).loader();
        fresh.poke(at, value, n);
        Due.due("boot() of a new object, " + what, fresh.boot(), why);
        Due.due("entry() of a new object, " + what, fresh.entry(), ChainLoader.BAD);
        for (int k = 0; k < 110; k++) {
            Due.due("memory(" + k + ") of a new object, " + what, fresh.memory(k), 0);
        }
        ChainLoader x = with("K=K\nA=xyz", Image.kernel(40, 0, 2, 64, 77)).loader();
        Due.due("boot()", x.boot(), LOADED);
        int[] before = new int[110];
        for (int k = 0; k < 110; k++) {
            before[k] = x.memory(k);
        }
        x.poke(at, value, n);
        Due.due("boot(), " + what, x.boot(), why);
        Due.due("entry(), " + what, x.entry(), 77);
        for (int k = 0; k < 110; k++) {
            Due.due("memory(" + k + "), " + what, x.memory(k), before[k]);
        }
    }

    /** "The entry of what was loaded last; BAD if nothing was." */
    private static void entryOfWhatWasLoadedLast() {
        ChainLoader x = with("K=K\nF=L", Image.kernel(40, 0, 0, 64, 103)).loader();
        Due.due("entry() of nothing", x.entry(), ChainLoader.BAD);
        Due.due("boot() of K", x.boot(), LOADED);
        Due.due("entry() of K", x.entry(), 103);
        x.poke(new Image().place(20), 0, 1);
        Due.due("boot() of L", x.boot(), OTHER);
        Due.due("entry() of L", x.entry(), 321);
        x.poke(new Image().place(30), 0, 1);
        Due.due("boot() of none", x.boot(), ChainLoader.BAD_HEADER);
        Due.due("entry() of L still", x.entry(), 321);
        x.poke(new Image().place(20), Image.MARK, 4);
        Due.due("boot() of K again", x.boot(), LOADED);
        Due.due("entry() of K again", x.entry(), 103);
    }

    /** boot() finds paths of its own, but the path text is still that which was typed, and the disk as it was poked. */
    private static void pathTextAndDiskStay() {
        Image image = with("K=X\nF=K", good());
        ChainLoader x = image.loader("L");
        Due.due("boot()", x.boot(), OTHER);
        Due.due("size() after boot()", x.size(), 24);
        Due.due("scrap() after boot()", x.scrap(), 1);
        for (int from = 0; from < 2048; from += 128) {
            ChainLoader y = image.loader();
            y.boot();
            y.survey();
            for (int at = from; at < from + 128; at++) {
                Due.due("peek(" + at + ") after boot()", y.peek(at), image.bytes[at] & 255);
            }
        }
    }
}

/** The edges of promise 9. Each method tests one sentence. */
public final class ListEdgesTest {
    private static final int[] NOWHERE = {-1, Integer.MIN_VALUE, Integer.MAX_VALUE, 256, 65536};

    public static void main(String[] args) {
        rootIfTheTextIsEmpty();
        noSuchEntry();
        largestDirectory();
        namesUpTo2To32Less1();
        orderOfAnswers();
        brokenComesBeforeBad();
        notDirectoryComesBeforeBroken();
        Due.end();
    }

    private static void due(String what, Image image, String path, int i, long want) {
        Due.due("list(" + i + ") of '" + path + "', " + what, image.loader(path).list(i), want);
    }

    /** A name of one character as a number. */
    private static long name(char c) {
        return c | 0x20202000L;
    }

    /** A directory D with a file G, a file F, and a directory B whose chain is broken. */
    private static Image mixed() {
        return new Image().entry(2, 0, "D", Image.DIRECTORY, 3, 0).chain(3).entry(3, 0, "G", Image.FILE, 0, 0)
            .entry(2, 1, "F", Image.FILE, 0, 0).entry(2, 2, "B", Image.DIRECTORY, 4, 0);
    }

    /** "(of the root if the text is empty)": and of no other one. */
    private static void rootIfTheTextIsEmpty() {
        due("the root", mixed(), "", 0, name('D'));
        due("a directory", mixed(), "D", 0, name('G'));
        String[] notEmpty = {" ", "/", ".", "//", "D/", "/D"};
        for (String path : notEmpty) {
            due("not empty", mixed(), path, 0, ChainLoader.BAD_PATH);
        }
        ChainLoader x = mixed().loader("D");
        x.scrap();
        Due.due("list(0) after scrap()", x.list(0), name('D'));
    }

    /** "BAD if there is no such entry" */
    private static void noSuchEntry() {
        due("the last", mixed(), "", 2, name('B'));
        due("behind the last", mixed(), "", 3, ChainLoader.BAD);
        due("the only one", mixed(), "D", 0, name('G'));
        due("behind the only one", mixed(), "D", 1, ChainLoader.BAD);
        for (int i : NOWHERE) {
            due("nowhere", mixed(), "", i, ChainLoader.BAD);
            due("nowhere", mixed(), "D", i, ChainLoader.BAD);
        }
    }

    /** All clusters filled with entries. */
    private static void largestDirectory() {
        Image image = new Image();
        for (int k = 2; k <= 59; k++) {
            image.link(k, k < 59 ? k + 1 : Image.END);
            for (int slot = 0; slot < 4; slot++) {
                image.entry(k, slot, "" + (char) (64 + k) + (char) (65 + slot), Image.FILE, 0, 0);
            }
        }
        ChainLoader x = image.loader();
        for (int i = 0; i < 232; i++) {
            Due.due("list(" + i + ")", x.list(i), 66 + i / 4 | 65 + i % 4 << 8 | 0x20200000L);
        }
        Due.due("list(232)", x.list(232), ChainLoader.BAD);
    }

    /** "the four bytes of its name, the first one lowest (0 .. 2^32 - 1)" */
    private static void namesUpTo2To32Less1() {
        long[] names = {0xffffffffL, 0x80000001L, 0x7fffffffL, 1, 0xff000001L, 0x00ff0001L, 0x0000ff01L, 0x000000ffL, 0xfffffffeL};
        for (long wanted : names) {
            Image image = new Image();
            image.put(image.entryPlace(2, 0), (int) wanted, (int) (wanted >> 8), (int) (wanted >> 16), (int) (wanted >> 24));
            due("any bytes", image, "", 0, wanted);
        }
    }

    /** "What volume() says if that is less than 0; BAD_PATH; what finding it says; NOT_DIRECTORY; BROKEN ..; BAD .." */
    private static void orderOfAnswers() {
        String[] paths = {"", "d", "X", "D/X", "F/X", "B/X", "F", "B", "D"};
        long[] want = {ChainLoader.BAD, ChainLoader.BAD_PATH, ChainLoader.ABSENT, ChainLoader.ABSENT, ChainLoader.NOT_DIRECTORY,
            ChainLoader.BROKEN, ChainLoader.NOT_DIRECTORY, ChainLoader.BROKEN, ChainLoader.BAD};
        for (int k = 0; k < paths.length; k++) {
            due("order", mixed(), paths[k], -1, want[k]);
            due("order", mixed().volume(0, 0), paths[k], -1, ChainLoader.BAD_VOLUME);
            due("order", mixed().volume(0, 0).put(7, 0), paths[k], -1, ChainLoader.NO_PARTITION);
            due("order", mixed().volume(0, 0).put(7, 0).put(31, 0), paths[k], -1, ChainLoader.NO_DISK);
            due("order, root broken", mixed().link(2, 1), paths[k], -1, k == 1 ? ChainLoader.BAD_PATH : ChainLoader.BROKEN);
        }
    }

    private static void brokenComesBeforeBad() {
        Image image = mixed().link(3, 3);
        int[] places = {0, 1, -1, Integer.MAX_VALUE};
        for (int i : places) {
            due("broken", image, "D", i, ChainLoader.BROKEN);
        }
        due("mended", image.link(3, 4088), "D", 0, name('G'));
        due("mended", image, "D", 1, ChainLoader.BAD);
    }

    private static void notDirectoryComesBeforeBroken() {
        Image image = mixed().entry(2, 1, "F", Image.FILE, 0, 9);
        due("a file whose content is broken", image, "F", 0, ChainLoader.NOT_DIRECTORY);
        due("a directory from the same cluster", image.entry(2, 1, "F", Image.DIRECTORY, 0, 9), "F", 0, ChainLoader.BROKEN);
    }
}

/** Promise 9. */
public final class ListTest {
    public static void main(String[] args) {
        rootAndBelow();
        numbers();
        passedOver();
        clusterSizes();
        errors();
        Due.end();
    }

    private static long name(String letters) {
        long number = 0;
        for (int k = 3; k >= 0; k--) {
            number = number << 8 | (k < letters.length() ? letters.charAt(k) : 32);
        }
        return number;
    }

    private static void due(String what, ChainLoader x, int i, long want) {
        Due.due("list(" + i + "), " + what, x.list(i), want);
    }

    private static void rootAndBelow() {
        Image image = new Image().entry(2, 0, "ABCD", Image.FILE, 9, 9).entry(2, 1, "D", Image.DIRECTORY, 3, 0).chain(3)
            .entry(3, 0, "X1", Image.FILE, 0, 0).entry(3, 1, "E", Image.DIRECTORY, 4, 0).chain(4, 5);
        due("root", image.loader(), 0, name("ABCD"));
        due("root", image.loader(), 1, name("D"));
        due("root", image.loader(), 2, ChainLoader.BAD);
        due("D", image.loader("D"), 0, name("X1"));
        due("D", image.loader("D"), 1, name("E"));
        due("D", image.loader("D"), 2, ChainLoader.BAD);
        due("D/E", image.loader("D/E"), 0, ChainLoader.BAD);
        int[] nowhere = {-1, Integer.MIN_VALUE, 4, 255, 256, Integer.MAX_VALUE};
        for (int i : nowhere) {
            due("root", image.loader(), i, ChainLoader.BAD);
        }
    }

    private static void numbers() {
        ChainLoader x = new Image().entry(2, 0, "\u00ff\u00ff\u00ff\u00ff", Image.FILE, 0, 0)
            .entry(2, 1, "\u0001\u0000\u0000\u0080", Image.FILE, 0, 0).entry(2, 2, "a\u00e5", Image.FILE, 0, 0).loader();
        due("the greatest name", x, 0, 4294967295L);
        due("the first byte lowest", x, 1, 0x80000001L);
        due("other letters", x, 2, name("a\u00e5"));
    }

    private static void passedOver() {
        Image image = new Image().chain(2, 7, 4)
            .entry(2, 0, "\u00e5", Image.FILE, 0, 0).entry(2, 1, "A", Image.PASSED, 0, 0)
            .entry(2, 2, "B", Image.FILE, 0, 0).entry(2, 3, "C", 255 - 16, 0, 0)
            .entry(7, 0, "D", 255 - 8, 0, 0).entry(7, 1, "E", Image.PASSED + 16, 0, 0)
            .entry(7, 2, "F", Image.FILE, 0, 0).entry(7, 3, "G", Image.FILE, 0, 0)
            .entry(4, 0, "H", Image.FILE, 0, 0).entry(4, 2, "I", Image.FILE, 0, 0);
        String[] names = {"B", "D", "F", "G", "H"};
        for (int i = 0; i < names.length; i++) {
            due("not passed over", image.loader(), i, name(names[i]));
        }
        due("behind the end", image.loader(), 5, ChainLoader.BAD);
        due("another root", image.volume(5, 4).loader(), 0, name("H"));
        Image filled = new Image();
        for (int slot = 0; slot < 4; slot++) {
            filled.entry(2, slot, "N", Image.FILE, 0, 0);
        }
        due("the chain's end", filled.entry(3, 0, "M", Image.FILE, 0, 0).loader(), 3, name("N"));
        due("behind the chain's end", filled.loader(), 4, ChainLoader.BAD);
        due("an end alone in the entry that would be passed over",
            new Image().put(new Image().entryPlace(2, 0) + 4, 8).entry(2, 1, "A", Image.FILE, 0, 0).loader(), 0, ChainLoader.BAD);
    }

    private static void clusterSizes() {
        int[] sectors = {1, 2, 4};
        for (int size : sectors) {
            Image image = new Image(1, 63, size, 1, 1, 4).chain(2, 5);
            int slots = 4 * size;
            for (int slot = 0; slot < slots; slot++) {
                image.entry(2, slot, "A" + (char) ('A' + slot), Image.FILE, 0, 0);
                image.entry(5, slot, "B" + (char) ('A' + slot), Image.FILE, 0, 0);
            }
            for (int i = 0; i < slots; i++) {
                due("cluster of " + size, image.loader(), i, name("A" + (char) ('A' + i)));
                due("cluster of " + size, image.loader(), slots + i, name("B" + (char) ('A' + i)));
            }
            due("cluster of " + size, image.loader(), 2 * slots, ChainLoader.BAD);
        }
    }

    private static void errors() {
        Image image = new Image().entry(2, 0, "D", Image.DIRECTORY, 3, 0).entry(2, 1, "F", Image.FILE, 3, 0)
            .entry(3, 0, "G", Image.FILE, 0, 0);
        due("no path", image.loader("d"), 0, ChainLoader.BAD_PATH);
        due("no path", image.loader("/"), 0, ChainLoader.BAD_PATH);
        due("no path", image.loader(" "), 0, ChainLoader.BAD_PATH);
        due("absent", image.loader("X"), 0, ChainLoader.ABSENT);
        due("a file", image.loader("F"), 0, ChainLoader.NOT_DIRECTORY);
        due("below a file", image.loader("F/X"), 0, ChainLoader.NOT_DIRECTORY);
        due("its chain broken", image.loader("D"), 0, ChainLoader.BROKEN);
        due("its chain broken, no such entry", image.loader("D"), -1, ChainLoader.BROKEN);
        due("from cluster 0", new Image().entry(2, 0, "D", Image.DIRECTORY, 0, 0).loader("D"), 0, ChainLoader.BROKEN);
        due("from cluster 1", new Image().entry(2, 0, "D", Image.DIRECTORY, 1, 0).loader("D"), 0, ChainLoader.BROKEN);
        due("below a broken chain", image.loader("D/X"), 0, ChainLoader.BROKEN);
        due("not broken", image.chain(3).loader("D"), 0, name("G"));
        due("root broken", image.link(2, 0).loader(), 0, ChainLoader.BROKEN);
        due("root broken behind the directory's end", image.link(2, 9).loader(), 0, ChainLoader.BROKEN);
        due("bad volume", image.volume(0, 0).loader("d"), 0, ChainLoader.BAD_VOLUME);
        due("no partition", image.put(7, 0).loader("d"), 0, ChainLoader.NO_PARTITION);
        due("no disk", new ChainLoader(), 0, ChainLoader.NO_DISK);
    }
}

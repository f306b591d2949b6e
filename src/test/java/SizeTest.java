/** Promise 7, and with it paths and how they are found. */
public final class SizeTest {
    public static void main(String[] args) {
        paths();
        sizes();
        found();
        names();
        passedOver();
        directoryChains();
        secondTable();
        volumeFirst();
        Due.end();
    }

    private static void due(String what, Image image, String path, int want) {
        Due.due("size() of '" + path + "', " + what, image.loader(path).size(), want);
    }

    private static Image deep() {
        return new Image().entry(2, 0, "A", Image.DIRECTORY, 3, 0).chain(3)
            .entry(3, 0, "BB", Image.DIRECTORY, 4, 0).chain(4)
            .entry(4, 0, "CCC", Image.DIRECTORY, 5, 0).chain(5)
            .entry(5, 0, "DDDD", Image.FILE, 0, 513)
            .entry(5, 1, "E", Image.DIRECTORY, 2, 0);
    }

    private static void paths() {
        String[] none = {"", "/", "//", "A/", "/A", "A//BB", "ABCDE", "A/BCDEF", "a", "A/b", "A B", " A", "A ", "A.B",
            "A@", "A[", "A:", "?", "A/BB/CCC/E/A", "A/BB/CCC/DDDD/", "AAAA/BBBB/CCCC/DDDDD", "A/A/A/A/A/A/A/A/A/A"};
        for (String path : none) {
            due("no path", deep(), path, ChainLoader.BAD_PATH);
        }
        String[] absent = {"0", "9", "Z", "Z9", "A/Z", "A/BB/Z", "A/BB/CCC/Z", "A/BB/CCC/DDD", "AAAA/BBBB/CCCC/DDDD"};
        for (String path : absent) {
            due("absent", deep(), path, ChainLoader.ABSENT);
        }
        due("absent, then no path", deep(), "Z/a", ChainLoader.BAD_PATH);
    }

    private static void sizes() {
        int[] sizes = {0, 1, 255, 256, 65535};
        for (int size : sizes) {
            due("whatever the content", new Image().entry(2, 0, "A", Image.FILE, 99, size), "A", size);
        }
        due("other attributes", new Image().entry(2, 0, "A", 231, 3, 7), "A", 7);
    }

    private static void found() {
        due("four names", deep(), "A/BB/CCC/DDDD", 513);
        due("directory", deep(), "A", ChainLoader.IS_DIRECTORY);
        due("directory", deep(), "A/BB", ChainLoader.IS_DIRECTORY);
        due("directory", deep(), "A/BB/CCC/E", ChainLoader.IS_DIRECTORY);
        due("directory by more bits", new Image().entry(2, 0, "A", 247, 3, 7), "A", ChainLoader.IS_DIRECTORY);
        Image image = new Image().entry(2, 0, "F", Image.FILE, 3, 9).entry(2, 1, "G", Image.DIRECTORY, 3, 9).chain(3);
        due("a file on the way", image, "F/X", ChainLoader.NOT_DIRECTORY);
        due("a file on the way", image, "F/X/Y", ChainLoader.NOT_DIRECTORY);
        due("an empty directory on the way", image, "G/X/Y", ChainLoader.ABSENT);
    }

    private static void names() {
        Image image = new Image().chain(2, 3)
            .entry(2, 0, "AB", Image.FILE, 0, 1).entry(2, 1, "A", Image.FILE, 0, 2)
            .entry(2, 2, "ABCD", Image.FILE, 0, 3).entry(2, 3, "09", Image.FILE, 0, 4)
            .entry(3, 0, "A", Image.FILE, 0, 5).entry(3, 1, "Z", Image.FILE, 0, 6)
            .entry(3, 2, "Y\0\0\0", Image.FILE, 0, 7).entry(3, 3, "X", Image.DIRECTORY, 0, 8);
        due("filled with blanks", image, "AB", 1);
        due("the first of two", image, "A", 2);
        due("four letters", image, "ABCD", 3);
        due("digits", image, "09", 4);
        due("in the second cluster", image, "Z", 6);
        due("filled with zeros", image, "Y", ChainLoader.ABSENT);
        due("part of a name", image, "ABC", ChainLoader.ABSENT);
        due("a directory with a size", image, "X", ChainLoader.IS_DIRECTORY);
        Image twice = new Image().entry(2, 0, "A", Image.DIRECTORY, 3, 0).chain(3).entry(2, 1, "A", Image.FILE, 0, 1);
        due("a directory before the file of the same name", twice, "A", ChainLoader.IS_DIRECTORY);
    }

    private static void passedOver() {
        Image image = new Image().chain(2, 3)
            .entry(2, 0, "A", Image.PASSED, 0, 1).entry(2, 1, "B", Image.PASSED | Image.DIRECTORY, 0, 2)
            .entry(2, 2, "A", 255 - 8 - 16, 0, 3).entry(2, 3, "\u00e5BC", Image.FILE, 0, 4)
            .entry(3, 0, "B", Image.FILE, 0, 5).entry(3, 2, "C", Image.FILE, 0, 6);
        due("the first has bit 8", image, "A", 3);
        due("the first has bits 8 and 16", image, "B", 5);
        due("behind the end of the directory", image, "C", ChainLoader.ABSENT);
        due("where the end was", image.entry(3, 1, "\u00e5", Image.FILE, 0, 9), "C", 6);
        Image ended = new Image().chain(2, 3).entry(2, 1, "A", Image.FILE, 0, 1).entry(3, 0, "B", Image.FILE, 0, 1);
        due("behind an end in the first entry", ended, "A", ChainLoader.ABSENT);
        due("in the cluster behind the end", ended, "B", ChainLoader.ABSENT);
    }

    private static void directoryChains() {
        Image image = new Image().entry(2, 0, "A", Image.FILE, 0, 1);
        due("root linked to itself", image.link(2, 2), "A", ChainLoader.BROKEN);
        due("root linked to 0", image.link(2, 0), "A", ChainLoader.BROKEN);
        due("root linked to 1", image.link(2, 1), "A", ChainLoader.BROKEN);
        due("root linked to n + 2", image.link(2, 60), "A", ChainLoader.BROKEN);
        due("root linked to 4087", image.link(2, 4087), "A", ChainLoader.BROKEN);
        due("root linked to 4088", image.link(2, 4088), "A", 1);
        due("upper bits left out", image.link(2, 61439 - 7), "A", 1);
        due("upper bits do not make an end", image.link(2, 0xf000), "A", ChainLoader.BROKEN);
        due("root linked to n + 1", image.link(2, 59).link(59, 4095), "A", 1);
        due("a link with upper bits", image.link(2, 0x703b), "A", 1);
        due("a ring of two", image.link(59, 2), "A", ChainLoader.BROKEN);
        due("a ring not through the root", image.link(59, 58).link(58, 59), "A", ChainLoader.BROKEN);
        due("broken before absent", image, "B", ChainLoader.BROKEN);
        Image below = new Image().entry(2, 0, "D", Image.DIRECTORY, 3, 0).entry(3, 0, "A", Image.FILE, 0, 1);
        due("a directory below that is broken", below.link(3, 3), "D/A", ChainLoader.BROKEN);
        due("a directory below that is not asked", below, "D", ChainLoader.IS_DIRECTORY);
        due("a directory below that is not broken", below.chain(3), "D/A", 1);
        int[] nowhere = {0, 1, 60, 255};
        for (int first : nowhere) {
            due("a directory from " + first, below.entry(2, 0, "D", Image.DIRECTORY, first, 0), "D/A", ChainLoader.BROKEN);
        }
        longestChain();
    }

    private static void longestChain() {
        Image image = new Image();
        for (int cluster = 2; cluster < 59; cluster++) {
            image.link(cluster, cluster + 1);
            for (int slot = 0; slot < 4; slot++) {
                image.entry(cluster, slot, "A", Image.FILE, 0, 1);
            }
        }
        image.link(59, 4095).entry(59, 0, "B", Image.FILE, 0, 2);
        due("all clusters in one chain", image, "B", 2);
        due("the last one linked to one of them", image.link(59, 30), "B", ChainLoader.BROKEN);
    }

    private static void secondTable() {
        Image image = Image.twoTables().entry(2, 0, "A", Image.FILE, 0, 1).entry(3, 0, "B", Image.FILE, 0, 2)
            .entry(2, 1, "C", Image.FILE, 0, 3).entry(2, 2, "C", Image.FILE, 0, 3).entry(2, 3, "C", Image.FILE, 0, 3);
        due("the first says the end", image.link(0, 2, 4095).link(1, 2, 3), "B", ChainLoader.ABSENT);
        due("the first says a cluster", image.link(0, 2, 3).link(1, 2, 0).link(0, 3, 4095), "B", 2);
        due("the first says nothing", image.link(0, 2, 1).link(1, 2, 3), "B", 2);
        due("the first says n + 2", image.link(0, 2, 56), "B", 2);
        due("the second one's upper bits", image.link(1, 2, 0x9003), "B", 2);
        due("the second one says the end", image.link(1, 2, 0xfff8), "B", ChainLoader.ABSENT);
        due("both say nothing", image.link(1, 2, 56), "A", ChainLoader.BROKEN);
        Image one = new Image().entry(2, 0, "A", Image.FILE, 0, 1).link(0, 2, 0).link(1, 2, 4095);
        due("one table alone", one, "A", ChainLoader.BROKEN);
    }

    private static void volumeFirst() {
        due("no disk", deep().put(30, 0), "", ChainLoader.NO_DISK);
        due("no partition", deep().put(7, 0), "a", ChainLoader.NO_PARTITION);
        due("bad volume", deep().volume(0, 0), "A", ChainLoader.BAD_VOLUME);
    }
}

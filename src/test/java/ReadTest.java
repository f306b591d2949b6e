/** Promise 8, and with it what a file's content is. */
public final class ReadTest {
    public static void main(String[] args) {
        clusterSizes();
        edges();
        empty();
        broken();
        asSize();
        Due.end();
    }

    private static void clusterSizes() {
        int[] sectors = {1, 2, 4};
        for (int size : sectors) {
            byte[] content = new byte[3 * 32 * size - 5];
            for (int k = 0; k < content.length; k++) {
                content[k] = (byte) (k * 11 + 3);
            }
            Image image = new Image(1, 63, size, 2, 2, 4).file(2, 0, "F", content, 9, 4, 7);
            for (int k = 0; k < content.length; k += 5) {
                Due.due("read(" + k + "), cluster of " + size, image.loader("F").read(k), content[k] & 255);
            }
            ChainLoader x = image.loader("F");
            Due.due("read of the last byte", x.read(content.length - 1), content[content.length - 1] & 255);
            Due.due("read behind the last byte", x.read(content.length), ChainLoader.BAD);
        }
    }

    private static void edges() {
        ChainLoader x = new Image().text(2, 0, "F", "\u00ffB", 3).loader("F");
        Due.due("read(0)", x.read(0), 255);
        Due.due("read(1)", x.read(1), 'B');
        int[] nowhere = {2, 31, 32, -1, Integer.MAX_VALUE, Integer.MIN_VALUE};
        for (int i : nowhere) {
            Due.due("read(" + i + ")", x.read(i), ChainLoader.BAD);
        }
        x.poke(new Image().place(3) + 1, 'C', 1);
        Due.due("read(1) of a new byte", x.read(1), 'C');
    }

    private static void empty() {
        int[] firsts = {0, 1, 2, 3, 60, 255};
        for (int first : firsts) {
            ChainLoader x = new Image().entry(2, 0, "F", Image.FILE, first, 0).loader("F");
            Due.due("read(0) of no bytes from " + first, x.read(0), ChainLoader.BAD);
        }
        ChainLoader x = new Image().text(2, 0, "F", "AB", 3).entry(2, 1, "E", Image.FILE, 3, 0).loader("F");
        Due.due("read(0)", x.read(0), 'A');
        Image.type(x, "E");
        Due.due("read(0) of no bytes behind a file", x.read(0), ChainLoader.BAD);
    }

    private static void due(String what, Image image, int i, int want) {
        Due.due("read(" + i + "), " + what, image.loader("F").read(i), want);
    }

    private static Image ofSize(int size) {
        return new Image().entry(2, 0, "F", Image.FILE, 3, size).put(new Image().place(3), 65, 66).chain(3, 4);
    }

    private static void broken() {
        due("two clusters filled", ofSize(64), 0, 65);
        due("longer than it needs to be", ofSize(2), 1, 66);
        due("too short by one", ofSize(65), 0, ChainLoader.BROKEN);
        due("too short, a byte that is not there", ofSize(65), 65, ChainLoader.BROKEN);
        due("too short by far", ofSize(65535), 0, ChainLoader.BROKEN);
        due("broken behind what is needed", ofSize(2).link(4, 0), 0, ChainLoader.BROKEN);
        due("a ring behind what is needed", ofSize(2).link(4, 3), 0, ChainLoader.BROKEN);
        due("a ring", ofSize(40).link(3, 3), 0, ChainLoader.BROKEN);
        due("broken before BAD", ofSize(2).link(4, 0), 9, ChainLoader.BROKEN);
        int[] nowhere = {0, 1, 60, 255};
        for (int first : nowhere) {
            due("from " + first, ofSize(2).entry(2, 0, "F", Image.FILE, first, 2), 0, ChainLoader.BROKEN);
        }
        due("from the last cluster", ofSize(2).entry(2, 0, "F", Image.FILE, 59, 2).chain(59), 0, 0);
        due("mended by the second table", Image.twoTables().text(2, 0, "F", "AB", 3).link(0, 3, 0).link(1, 3, 4088), 1, 66);
    }

    private static void asSize() {
        Image image = new Image().entry(2, 0, "D", Image.DIRECTORY, 3, 5).chain(3).text(2, 1, "F", "AB", 4);
        Due.due("read(0) of a directory", image.loader("D").read(0), ChainLoader.IS_DIRECTORY);
        Due.due("read(-1) of a directory", image.loader("D").read(-1), ChainLoader.IS_DIRECTORY);
        Due.due("read(0) of nothing", image.loader("D/F").read(0), ChainLoader.ABSENT);
        Due.due("read(0) below a file", image.loader("F/D").read(0), ChainLoader.NOT_DIRECTORY);
        Due.due("read(0) of no path", image.loader("").read(0), ChainLoader.BAD_PATH);
        Due.due("read(0) of a broken root", image.link(2, 2).loader("F").read(0), ChainLoader.BROKEN);
        Due.due("read(0) of a bad volume", image.volume(0, 0).loader("").read(0), ChainLoader.BAD_VOLUME);
        Due.due("read(0) of no partition", image.put(7, 0).loader("").read(0), ChainLoader.NO_PARTITION);
        Due.due("read(0) of no disk", new ChainLoader().read(0), ChainLoader.NO_DISK);
    }
}

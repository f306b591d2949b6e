/** The edges of "A FILE" and of promises 7 and 8. Each method tests one sentence. */
public final class FileEdgesTest {
    private static final int[] CLUSTER_SECTORS = {1, 2, 4};

    public static void main(String[] args) {
        chainLongEnough();
        clustersOneAfterTheOther();
        noSuchByte();
        sizeZeroHasNoChain();
        brokenChain();
        brokenComesBeforeBad();
        sizeDoesNotAskForTheContent();
        asSizeIfLessThan0();
        orderOfSize();
        largestFile();
        Due.end();
    }

    /** A file F of such a size whose chain has so many clusters, each filled with its number. */
    private static Image file(int clusterSectors, int size, int clusters) {
        Image image = new Image(1, 63, clusterSectors, 1, 1, 4).entry(2, 0, "F", Image.FILE, 3, size);
        int[] numbers = new int[clusters];
        for (int k = 0; k < clusters; k++) {
            numbers[k] = 3 + k;
            for (int at = 0; at < 32 * clusterSectors; at++) {
                image.put(image.place(3 + k) + at, 3 + k);
            }
        }
        return image.chain(numbers);
    }

    /** "its content is BROKEN if .. too short" */
    private static void chainLongEnough() {
        for (int c : CLUSTER_SECTORS) {
            for (int clusters = 1; clusters <= 4; clusters++) {
                int bytes = 32 * c * clusters;
                String what = ", c " + c + ", clusters " + clusters + ", size ";
                for (int less = 0; less <= 1; less++) {
                    Due.due("read(0)" + what + (bytes - less), file(c, bytes - less, clusters).loader("F").read(0), 3);
                }
                Due.due("read(0)" + what + (bytes + 1), file(c, bytes + 1, clusters).loader("F").read(0), ChainLoader.BROKEN);
                Due.due("read(0)" + what + 65535, file(c, 65535, clusters).loader("F").read(0), ChainLoader.BROKEN);
                Due.due("read(0)" + what + 1, file(c, 1, clusters).loader("F").read(0), 3);
            }
        }
    }

    /** "those of the clusters of its chain one after the other" */
    private static void clustersOneAfterTheOther() {
        for (int c : CLUSTER_SECTORS) {
            int cluster = 32 * c;
            ChainLoader x = file(c, 3 * cluster, 3).loader("F");
            int[] places = {0, cluster - 1, cluster, 2 * cluster - 1, 2 * cluster, 3 * cluster - 1};
            int[] want = {3, 3, 4, 4, 5, 5};
            for (int k = 0; k < places.length; k++) {
                Due.due("read(" + places[k] + "), c " + c, x.read(places[k]), want[k]);
            }
        }
        byte[] content = new byte[128];
        for (int k = 0; k < 128; k++) {
            content[k] = (byte) (255 - k);
        }
        ChainLoader x = new Image().file(2, 0, "F", content, 40, 7, 59, 3).loader("F");
        for (int i = 0; i < 128; i++) {
            Due.due("read(" + i + ") of clusters out of order", x.read(i), 255 - i);
        }
    }

    /** "BAD if there is no such byte": also where the chain goes on behind the file. */
    private static void noSuchByte() {
        int[] sizes = {1, 31, 32, 33, 63, 64};
        for (int size : sizes) {
            ChainLoader x = file(1, size, 3).loader("F");
            Due.due("read(-1) of " + size, x.read(-1), ChainLoader.BAD);
            Due.due("read(0) of " + size, x.read(0), 3);
            Due.due("read of the last byte of " + size, x.read(size - 1), 3 + (size - 1) / 32);
            for (int i = size; i <= 97; i++) {
                Due.due("read(" + i + ") of " + size, x.read(i), ChainLoader.BAD);
            }
            Due.due("read of the highest int, of " + size, x.read(Integer.MAX_VALUE), ChainLoader.BAD);
            Due.due("read of the lowest int, of " + size, x.read(Integer.MIN_VALUE), ChainLoader.BAD);
        }
    }

    /** "(With size 0 there is no chain.)" */
    private static void sizeZeroHasNoChain() {
        for (int first = 0; first < 256; first++) {
            Image image = new Image().entry(2, 0, "F", Image.FILE, first, 0);
            Due.due("read(0), size 0 from " + first, image.loader("F").read(0), ChainLoader.BAD);
            boolean whole = first == 2;
            image.entry(2, 0, "F", Image.FILE, first, 1);
            Due.due("read(0), size 1 from " + first, image.loader("F").read(0), whole ? 'F' : ChainLoader.BROKEN);
        }
        Due.due("size() of size 0", new Image().entry(2, 0, "F", Image.FILE, 0, 0).loader("F").size(), 0);
        ChainLoader x = file(1, 1, 1).entry(2, 1, "E", Image.FILE, 3, 0).loader("F");
        Due.due("read(0) of size 1", x.read(0), 3);
        Image.type(x, "E");
        Due.due("read(0) of size 0 after it", x.read(0), ChainLoader.BAD);
    }

    /** "its content is BROKEN if the size is not 0 and the chain is broken" */
    private static void brokenChain() {
        int[] breaks = {0, 1, 60, 4087, 3, 4, 5};
        for (int number : breaks) {
            Due.due("read(0), broken by " + number + " in the last cluster needed",
                file(1, 96, 3).link(5, number).loader("F").read(0), ChainLoader.BROKEN);
            Due.due("read(0), broken by " + number + " behind what is needed",
                file(1, 32, 3).link(5, number).loader("F").read(0), ChainLoader.BROKEN);
        }
        Due.due("read(0), not broken", file(1, 96, 3).link(5, 59).link(59, 4088).loader("F").read(0), 3);
    }

    /** "BROKEN if its content is; BAD if there is no such byte": in this order. */
    private static void brokenComesBeforeBad() {
        int[] nowhere = {-1, 33, 96, Integer.MAX_VALUE, Integer.MIN_VALUE};
        for (int i : nowhere) {
            Due.due("read(" + i + ")", file(1, 33, 1).loader("F").read(i), ChainLoader.BROKEN);
            Due.due("read(" + i + ")", file(1, 33, 2).loader("F").read(i), ChainLoader.BAD);
        }
    }

    /** size() says nothing of a content that is broken. */
    private static void sizeDoesNotAskForTheContent() {
        Due.due("size(), too short", file(1, 33, 1).loader("F").size(), 33);
        Due.due("size(), a ring", file(1, 33, 2).link(4, 3).loader("F").size(), 33);
        Due.due("size(), from no cluster", new Image().entry(2, 0, "F", Image.FILE, 0, 65535).loader("F").size(), 65535);
    }

    /** "As size() if that is less than 0" */
    private static void asSizeIfLessThan0() {
        String[] paths = {"", "f", "X", "D", "F/X", "D/X", "B/X"};
        for (String path : paths) {
            ChainLoader x = mixed().loader(path);
            int size = x.size();
            Due.due("size() of '" + path + "' is less than 0", size < 0, true);
            Due.due("read(0) of '" + path + "'", x.read(0), size);
            Due.due("read(-1) of '" + path + "'", x.read(-1), size);
        }
    }

    /** A file F, a directory D and one B whose chain is broken. */
    private static Image mixed() {
        return new Image().entry(2, 0, "F", Image.FILE, 3, 5).chain(3).entry(2, 1, "D", Image.DIRECTORY, 4, 0).chain(4)
            .entry(2, 2, "B", Image.DIRECTORY, 5, 0);
    }

    /** "What volume() says if that is less than 0; BAD_PATH; what finding it says; IS_DIRECTORY." */
    private static void orderOfSize() {
        dueSize("", mixed(), ChainLoader.BAD_PATH);
        dueSize("X", mixed(), ChainLoader.ABSENT);
        dueSize("F/X", mixed(), ChainLoader.NOT_DIRECTORY);
        dueSize("B/X", mixed(), ChainLoader.BROKEN);
        dueSize("D", mixed(), ChainLoader.IS_DIRECTORY);
        dueSize("B", mixed(), ChainLoader.IS_DIRECTORY);
        dueSize("F", mixed(), 5);
        String[] paths = {"", "X", "F/X", "B/X", "D", "F"};
        for (String path : paths) {
            dueSize(path, mixed().volume(0, 0), ChainLoader.BAD_VOLUME);
            dueSize(path, mixed().volume(0, 0).put(7, 0), ChainLoader.NO_PARTITION);
            dueSize(path, mixed().volume(0, 0).put(7, 0).put(30, 0), ChainLoader.NO_DISK);
            dueSize(path, mixed().link(2, 0), path.isEmpty() ? ChainLoader.BAD_PATH : ChainLoader.BROKEN);
        }
    }

    private static void dueSize(String path, Image image, int want) {
        Due.due("size() of '" + path + "'", image.loader(path).size(), want);
    }

    /** All clusters but the root's in one file. */
    private static void largestFile() {
        Image image = file(1, 57 * 32, 57);
        ChainLoader x = image.loader("F");
        Due.due("read of the last byte", x.read(57 * 32 - 1), 59);
        Due.due("read behind the last byte", x.read(57 * 32), ChainLoader.BAD);
        Due.due("read(0), one byte more", file(1, 57 * 32 + 1, 57).loader("F").read(0), ChainLoader.BROKEN);
    }
}

import java.nio.charset.StandardCharsets;
import java.util.Arrays;

/** The bytes of a disk under construction. Without changes: one good, empty volume from sector 1 to 63. */
final class Image {
    static final int FILE = 0;
    static final int PASSED = 8;
    static final int DIRECTORY = 16;
    static final int END = 4095;
    static final int MARK = 464367618;

    final byte[] bytes = new byte[2048];
    private int first;
    private int clusterSectors;
    private int before;
    private int tables;
    private int tableSectors;

    Image() {
        this(1, 63, 1, 1, 1, 4);
    }

    Image(int first, int sectors, int clusterSectors, int before, int tables, int tableSectors) {
        this.first = first;
        this.clusterSectors = clusterSectors;
        this.before = before;
        this.tables = tables;
        this.tableSectors = tableSectors;
        sign(0);
        record(0, 128, 12, first, sectors);
        sign(first);
        put(32 * first, 235, clusterSectors, before, tables, tableSectors, 2);
        link(2, END);
    }

    /** A volume with two tables and 54 clusters. */
    static Image twoTables() {
        return new Image(1, 63, 1, 1, 2, 4);
    }

    /** Three volumes of 1, 2 and 3 clusters, so that their number tells which record was taken. */
    static Image threeVolumes() {
        Image image = new Image(1, 3, 1, 1, 1, 1);
        for (int k = 1; k < 3; k++) {
            image.record(k, 128, 12, 10 * k, 3 + k);
            image.put(320 * k, 235, 1, 1, 1, 1, 2);
            image.sign(10 * k);
        }
        return image;
    }

    Image put(int at, int... values) {
        for (int k = 0; k < values.length; k++) {
            bytes[at + k] = (byte) values[k];
        }
        return this;
    }

    Image putInt(int at, int value) {
        return put(at, value, value >> 8, value >> 16, value >> 24);
    }

    Image sign(int sector) {
        return put(32 * sector + 30, 85, 170);
    }

    Image record(int number, int active, int type, int firstSector, int sectors) {
        return put(6 + 8 * number, active, type, firstSector, sectors);
    }

    /** Sets one of the volume's bytes. */
    Image volume(int place, int value) {
        return put(32 * first + place, value);
    }

    int linkPlace(int table, int cluster) {
        return 32 * (first + before + table * tableSectors) + 2 * cluster;
    }

    Image link(int table, int cluster, int next) {
        return put(linkPlace(table, cluster), next, next >> 8);
    }

    /** Sets a link in the first table alone. */
    Image link(int cluster, int next) {
        return link(0, cluster, next);
    }

    /** Links clusters to one another, the last one to the end. */
    Image chain(int... clusters) {
        for (int k = 0; k < clusters.length; k++) {
            link(clusters[k], k + 1 < clusters.length ? clusters[k + 1] : END);
        }
        return this;
    }

    int place(int cluster) {
        return 32 * (first + before + tables * tableSectors + (cluster - 2) * clusterSectors);
    }

    int entryPlace(int cluster, int slot) {
        return place(cluster) + 8 * slot;
    }

    Image entry(int cluster, int slot, String name, int attributes, int firstCluster, int size) {
        byte[] letters = Arrays.copyOf(name.getBytes(StandardCharsets.ISO_8859_1), 4);
        for (int k = name.length(); k < 4; k++) {
            letters[k] = 32;
        }
        int at = entryPlace(cluster, slot);
        System.arraycopy(letters, 0, bytes, at, 4);
        return put(at + 4, attributes, firstCluster, size, size >> 8);
    }

    /** Writes an entry of a file, and its content onto the clusters, linked in this order. */
    Image file(int cluster, int slot, String name, byte[] content, int... clusters) {
        entry(cluster, slot, name, FILE, clusters[0], content.length);
        chain(clusters);
        int clusterBytes = 32 * clusterSectors;
        for (int k = 0; k < content.length; k++) {
            bytes[place(clusters[k / clusterBytes]) + k % clusterBytes] = content[k];
        }
        return this;
    }

    Image text(int cluster, int slot, String name, String content, int... clusters) {
        return file(cluster, slot, name, content.getBytes(StandardCharsets.ISO_8859_1), clusters);
    }

    /** A new object with these bytes on its disk, in no more calls than are needed. */
    ChainLoader loader() {
        ChainLoader x = new ChainLoader();
        for (int at = 0; at < 2048; at += 8) {
            long eight = 0;
            for (int k = 7; k >= 0; k--) {
                eight = eight << 8 | bytes[at + k] & 255;
            }
            if (eight != 0 && !x.poke(at, eight, 8)) {
                throw new IllegalStateException("poke");
            }
        }
        return x;
    }

    /** A new object with these bytes on its disk and a path text. */
    ChainLoader loader(String path) {
        ChainLoader x = loader();
        type(x, path);
        return x;
    }

    static void type(ChainLoader x, String path) {
        x.scrap();
        for (int k = 0; k < path.length(); k++) {
            x.type(path.charAt(k));
        }
    }

    /** A kernel with a good header at a place and, elsewhere, bytes that tell their place. */
    static byte[] kernel(int size, int header, int flags, int address, int entry) {
        byte[] content = new byte[size];
        for (int k = 0; k < size; k++) {
            content[k] = (byte) (k * 7 + 1);
        }
        intInto(content, header, MARK);
        intInto(content, header + 4, flags);
        intInto(content, header + 8, -(MARK + flags));
        intInto(content, header + 12, address);
        intInto(content, header + 16, entry);
        return content;
    }

    static void intInto(byte[] content, int at, int value) {
        for (int k = 0; k < 4 && at + k < content.length; k++) {
            content[at + k] = (byte) (value >> 8 * k);
        }
    }

    static int intAt(ChainLoader x, int at) {
        return x.memory(at) | x.memory(at + 1) << 8 | x.memory(at + 2) << 16 | x.memory(at + 3) << 24;
    }
}

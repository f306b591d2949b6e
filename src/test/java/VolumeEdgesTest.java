/** The edges of promise 4: "THE VOLUME". Each method tests one sentence. */
public final class VolumeEdgesTest {
    private static final int[] CLUSTER_SECTORS = {1, 2, 4};

    public static void main(String[] args) {
        firstByteIs235();
        firstSectorIsSigned();
        clusterSectorsAre1Or2Or4();
        atLeast1SectorBeforeTheTables();
        tablesAre1Or2();
        tableHasAtLeast1Sector();
        asManyClustersAsFitWhole();
        atLeast1Cluster();
        tableHasRoom();
        rootIsACluster();
        sumsOfBytesDoNotWrap();
        lastByteOfTheDiskBelongsToTheLastCluster();
        Due.end();
    }

    private static void due(String what, Image image, int want) {
        Due.due("volume(), " + what, image.loader().volume(), want);
    }

    /** What is due for a partition of so many sectors: the clusters counted one by one. */
    private static int clusters(int sectors, int clusterSectors, int before, int tables, int tableSectors) {
        int used = before + tables * tableSectors;
        int n = 0;
        while (used + clusterSectors <= sectors) {
            used += clusterSectors;
            n++;
        }
        return n >= 1 && 16 * tableSectors >= n + 2 ? n : ChainLoader.BAD_VOLUME;
    }

    /** "The partition's first sector must have the byte 235 at 0" */
    private static void firstByteIs235() {
        for (int value = 0; value < 256; value++) {
            due("byte " + value, new Image().volume(0, value), value == 235 ? 58 : ChainLoader.BAD_VOLUME);
        }
    }

    /** "the bytes 85, 170 at 30 and 31" */
    private static void firstSectorIsSigned() {
        int[] wrong = {0, 84, 86, 169, 171, 255};
        for (int value : wrong) {
            due(value + " at 30", new Image().volume(30, value), ChainLoader.BAD_VOLUME);
            due(value + " at 31", new Image().volume(31, value), ChainLoader.BAD_VOLUME);
        }
        due("turned round", new Image().volume(30, 170).volume(31, 85), ChainLoader.BAD_VOLUME);
    }

    /** "at 1 the sectors of a cluster c, 1, 2 or 4" */
    private static void clusterSectorsAre1Or2Or4() {
        for (int c = 0; c < 256; c++) {
            boolean good = c == 1 || c == 2 || c == 4;
            due("c " + c, new Image().volume(1, c), good ? clusters(63, c, 1, 1, 4) : ChainLoader.BAD_VOLUME);
        }
    }

    /** "at 2 how many sectors come before the tables, at least 1" */
    private static void atLeast1SectorBeforeTheTables() {
        due("0 before the tables", new Image().volume(2, 0), ChainLoader.BAD_VOLUME);
        for (int before = 1; before < 256; before++) {
            due(before + " before the tables", new Image().volume(2, before), clusters(63, 1, before, 1, 4));
        }
    }

    /** "at 3 the number of tables, 1 or 2" */
    private static void tablesAre1Or2() {
        for (int tables = 0; tables < 256; tables++) {
            boolean good = tables == 1 || tables == 2;
            due(tables + " tables", new Image().volume(3, tables), good ? 62 - 4 * tables : ChainLoader.BAD_VOLUME);
        }
    }

    /** "at 4 the sectors of a table, at least 1" */
    private static void tableHasAtLeast1Sector() {
        for (int tables = 1; tables <= 2; tables++) {
            Image none = new Image(1, 9, 1, 1, tables, 1).volume(4, 0);
            due(tables + " tables of 0", none, ChainLoader.BAD_VOLUME);
            due(tables + " tables of 1", none.volume(4, 1), 8 - tables);
            for (int sectors = 1; sectors < 256; sectors++) {
                due(tables + " tables of " + sectors, new Image().volume(3, tables).volume(4, sectors),
                    clusters(63, 1, 1, tables, sectors));
            }
        }
    }

    /** "there are as many as fit into the partition whole" */
    private static void asManyClustersAsFitWhole() {
        for (int c : CLUSTER_SECTORS) {
            for (int sectors = 1; sectors <= 63; sectors++) {
                due(sectors + " sectors, c " + c, new Image().volume(1, c).record(0, 128, 12, 1, sectors), clusters(sectors, c, 1, 1, 4));
            }
        }
    }

    /** "n must be at least 1" */
    private static void atLeast1Cluster() {
        for (int c : CLUSTER_SECTORS) {
            for (int tables = 1; tables <= 2; tables++) {
                int ahead = 1 + tables;
                due("a sector too few, c " + c, new Image(1, ahead + c - 1, c, 1, tables, 1), ChainLoader.BAD_VOLUME);
                due("one cluster, c " + c, new Image(1, ahead + c, c, 1, tables, 1), 1);
                due("one cluster and a part, c " + c, new Image(1, ahead + 2 * c - 1, c, 1, tables, 1), 1);
                due("two clusters, c " + c, new Image(1, ahead + 2 * c, c, 1, tables, 1), 2);
            }
        }
        due("nothing behind the tables", new Image(1, 5, 1, 1, 1, 4), ChainLoader.BAD_VOLUME);
        due("the tables go beyond the partition", new Image(1, 4, 1, 1, 1, 4), ChainLoader.BAD_VOLUME);
    }

    /** "a table must have room for n + 2 words" */
    private static void tableHasRoom() {
        for (int tables = 1; tables <= 2; tables++) {
            for (int tableSectors = 1; tableSectors <= 3; tableSectors++) {
                int most = 16 * tableSectors - 2;
                int sectors = 1 + tables * tableSectors + most;
                String what = tables + " tables of " + tableSectors + ", n ";
                due(what + most, new Image(1, sectors, 1, 1, tables, tableSectors), most);
                due(what + (most + 1), new Image(1, sectors + 1, 1, 1, tables, tableSectors), ChainLoader.BAD_VOLUME);
            }
        }
        due("n 14 of four sectors", new Image(1, 2 + 4 * 14, 4, 1, 1, 1), 14);
        due("n 14 of four sectors, three over", new Image(1, 5 + 4 * 14, 4, 1, 1, 1), 14);
        due("n 15 of four sectors", new Image(1, 2 + 4 * 15, 4, 1, 1, 1), ChainLoader.BAD_VOLUME);
    }

    /** "the root's cluster must be 2 .. n + 1" */
    private static void rootIsACluster() {
        int[] counts = {1, 2, 14};
        for (int n : counts) {
            for (int root = 0; root < 256; root++) {
                due("n " + n + ", root " + root, new Image(1, 2 + n, 1, 1, 1, 1).volume(5, root),
                    root >= 2 && root <= n + 1 ? n : ChainLoader.BAD_VOLUME);
            }
        }
        due("n 58, root 59", new Image().volume(5, 59), 58);
        due("n 58, root 60", new Image().volume(5, 60), ChainLoader.BAD_VOLUME);
    }

    private static void sumsOfBytesDoNotWrap() {
        due("255 before and a table of 1", new Image().volume(2, 255).volume(4, 1), ChainLoader.BAD_VOLUME);
        due("252 before and a table of 4", new Image().volume(2, 252), ChainLoader.BAD_VOLUME);
        due("2 tables of 128", new Image().volume(3, 2).volume(4, 128), ChainLoader.BAD_VOLUME);
        due("2 tables of 130", new Image().volume(3, 2).volume(4, 130), ChainLoader.BAD_VOLUME);
        due("255 before and 2 tables of 255", new Image().volume(2, 255).volume(3, 2).volume(4, 255), ChainLoader.BAD_VOLUME);
    }

    private static void lastByteOfTheDiskBelongsToTheLastCluster() {
        ChainLoader x = new Image().entry(2, 0, "F", Image.FILE, 59, 32).chain(59).put(2047, 201).loader("F");
        Due.due("read(31) of the last cluster", x.read(31), 201);
        Image wide = new Image(4, 60, 4, 1, 1, 3);
        Due.due("clusters of four sectors", wide.loader().volume(), 14);
        ChainLoader y = wide.entry(2, 0, "F", Image.FILE, 15, 128).chain(15).put(2047, 202).loader("F");
        Due.due("read(127) of the last cluster", y.read(127), 202);
    }
}

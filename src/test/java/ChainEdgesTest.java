/** The edges of "CHAINS", as promises 7 to 11 meet them. Each method tests one sentence. */
public final class ChainEdgesTest {
    /** Numbers on both sides of each line that the document draws, for a volume of 54 clusters (2 .. 55). */
    private static final int[] EDGES = {0, 1, 2, 3, 4, 5, 54, 55, 56, 255, 256, 4086, 4087, 4088, 4089, 4094, 4095};

    public static void main(String[] args) {
        whatComesBehind();
        whatComesBehindInADirectory();
        upperFourBitsAreLeftOut();
        secondTableCountsIfTheFirstSaysNeither();
        oneTableCountsAlone();
        secondTableIsAskedForEachCluster();
        chainBeginsWithACluster();
        numbersGoUpToNPlus1();
        clusterComesTwice();
        clusterComesTwiceByTheSecondTable();
        everyClusterOnce();
        anotherChainMayShareACluster();
        Due.end();
    }

    /** A file F of two clusters, 3 and 4; every cluster but 3 is linked to the end in the first table. */
    private static Image file() {
        Image image = Image.twoTables();
        for (int k = 2; k <= 55; k++) {
            image.link(k, Image.END);
        }
        return image.entry(2, 0, "F", Image.FILE, 3, 33).link(3, 4).put(image.place(4), 66);
    }

    private static void due(String what, Image image, boolean whole) {
        Due.due("read(32), " + what, image.loader("F").read(32), whole ? 66 : ChainLoader.BROKEN);
    }

    private static boolean isCluster(int number) {
        return number >= 2 && number <= 55;
    }

    /** True if a number behind cluster 4 leaves the file's chain whole. */
    private static boolean goesOn(int number) {
        return number >= 4088 || isCluster(number) && number != 3 && number != 4;
    }

    /** "2 .. n + 1 that cluster, 4088 or more the end", "BROKEN if a number in it is not 2 .. n + 1 and not the end" */
    private static void whatComesBehind() {
        for (int number = 0; number < 4096; number++) {
            due("behind 4 comes " + number, file().link(4, number), goesOn(number));
        }
    }

    private static void whatComesBehindInADirectory() {
        for (int number : EDGES) {
            Image image = file().entry(2, 1, "D", Image.DIRECTORY, 4, 0).link(4, number);
            // Cluster 3 is linked to 4, so with it 4 would come twice here too.
            boolean whole = goesOn(number);
            Due.due("list(9) of D, behind 4 comes " + number, image.loader("D").list(9), whole ? ChainLoader.BAD : ChainLoader.BROKEN);
            Due.due("size() of D/X, behind 4 comes " + number, image.loader("D/X").size(), whole ? ChainLoader.ABSENT : ChainLoader.BROKEN);
            Due.due("survey(), behind 4 comes " + number, image.loader().survey() == ChainLoader.BROKEN, !whole);
        }
    }

    /** "its upper four bits left out" */
    private static void upperFourBitsAreLeftOut() {
        for (int upper = 0; upper < 16; upper++) {
            for (int number : EDGES) {
                due("behind 4 comes " + number + " with " + upper, file().link(4, upper << 12 | number), goesOn(number));
            }
        }
    }

    /** "If that of the first table says neither, and there are two tables, that of the second one counts." */
    private static void secondTableCountsIfTheFirstSaysNeither() {
        for (int one : EDGES) {
            for (int two : EDGES) {
                boolean says = one >= 4088 || isCluster(one);
                due("tables say " + one + " and " + two, file().link(0, 4, one).link(1, 4, two), goesOn(says ? one : two));
                due("tables say so, upper bits too", file().link(0, 4, 0x6000 | one).link(1, 4, 0x9000 | two), goesOn(says ? one : two));
            }
        }
    }

    /** "and there are two tables": with one, what lies where the second would be says nothing. */
    private static void oneTableCountsAlone() {
        Image image = new Image().entry(2, 0, "F", Image.FILE, 3, 33).link(0, 3, 4).link(1, 4, Image.END).put(new Image().place(4), 66);
        due("one table", image, false);
        due("one table that says it", image.link(0, 4, Image.END), true);
    }

    private static void secondTableIsAskedForEachCluster() {
        Image image = file().link(0, 3, 0).link(1, 3, 9).link(0, 9, 4).link(1, 9, 1).link(0, 4, 56).link(1, 4, 4088)
            .entry(2, 0, "F", Image.FILE, 3, 65).put(file().place(4), 67);
        Due.due("read(64)", image.loader("F").read(64), 67);
        Due.due("read(64), the second table wrong", image.link(1, 4, 0).loader("F").read(64), ChainLoader.BROKEN);
    }

    /** "A chain begins with some cluster": a first number that is none breaks it. */
    private static void chainBeginsWithACluster() {
        for (int first = 0; first < 256; first++) {
            Image image = file().link(3, Image.END).entry(2, 0, "F", Image.FILE, first, 1).entry(2, 1, "D", Image.DIRECTORY, first, 0);
            int want = isCluster(first) ? image.bytes[image.place(first)] & 255 : ChainLoader.BROKEN;
            Due.due("read(0) from " + first, image.loader("F").read(0), want);
            Due.due("list(-1) from " + first, image.loader("D").list(-1), isCluster(first) ? ChainLoader.BAD : ChainLoader.BROKEN);
        }
    }

    /** "2 .. n + 1", for other n */
    private static void numbersGoUpToNPlus1() {
        int[] counts = {2, 3, 14};
        for (int n : counts) {
            for (int number = 0; number <= 17; number++) {
                Image image = new Image(1, 2 + n, 1, 1, 1, 1);
                for (int k = 2; k <= n + 1; k++) {
                    image.link(k, 4088);
                }
                image.entry(2, 0, "F", Image.FILE, 3, 1).link(3, number);
                boolean whole = number == 2 || number > 3 && number <= n + 1;
                Due.due("read(0), n " + n + ", behind 3 comes " + number, image.loader("F").read(0), whole ? 0 : ChainLoader.BROKEN);
            }
        }
    }

    /** "or a cluster comes twice" */
    private static void clusterComesTwice() {
        due("3, 4, 5, the end", file().chain(3, 4, 5), true);
        due("3, 3", file().link(3, 3), false);
        due("3, 4, 3", file().link(4, 3), false);
        due("3, 4, 4", file().link(4, 4), false);
        due("3, 4, 5, 3", file().link(4, 5).link(5, 3), false);
        due("3, 4, 5, 4", file().link(4, 5).link(5, 4), false);
        due("3, 4, 5, 5", file().link(4, 5).link(5, 5), false);
        Image root = new Image().entry(2, 0, "A", Image.FILE, 0, 1);
        Due.due("list(0), root 2, 2", root.link(2, 2).loader().list(0), ChainLoader.BROKEN);
        Due.due("list(0), root 2, 9, 2", root.link(2, 9).link(9, 2).loader().list(0), ChainLoader.BROKEN);
        Due.due("list(0), root 2, 9, the end", root.link(9, 4095).loader().list(0), 'A' | 0x20202000L);
    }

    private static void clusterComesTwiceByTheSecondTable() {
        due("3, 4, 5 and 4 by the second", file().link(4, 5).link(0, 5, 0).link(1, 5, 4), false);
        due("3, 4, 5 and 6 by the second", file().link(4, 5).link(0, 5, 0).link(1, 5, 6), true);
        due("4 said by both", file().link(0, 3, 1).link(1, 3, 4), true);
    }

    /** A chain of all clusters is whole, and one link more breaks it. */
    private static void everyClusterOnce() {
        int[] counts = {1, 2, 14};
        for (int n : counts) {
            Image image = new Image(1, 2 + n, 1, 1, 1, 1);
            for (int k = 2; k <= n; k++) {
                image.link(k, k + 1);
            }
            image.link(n + 1, Image.END).entry(2, 0, "F", Image.FILE, 2, 32 * n);
            Due.due("read(0), all " + n + " clusters", image.loader("F").read(0), 'F');
            for (int k = 2; k <= n + 1; k++) {
                Due.due("list(0), all " + n + " clusters and " + k, image.link(n + 1, k).loader().list(0), ChainLoader.BROKEN);
            }
            Due.due("list(0), all " + n + " clusters and n + 2", image.link(n + 1, n + 2).loader().list(0), ChainLoader.BROKEN);
        }
    }

    /** Twice in one chain breaks it; once each in two chains does not. */
    private static void anotherChainMayShareACluster() {
        Image image = file().entry(2, 1, "G", Image.FILE, 5, 64).link(5, 4);
        due("4 is also behind 5", image, true);
        Due.due("read(32) of G", image.loader("G").read(32), 66);
        due("the root's cluster behind 4", image.link(4, 2), true);
    }
}

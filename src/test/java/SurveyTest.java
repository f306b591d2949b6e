/** Promise 10. */
public final class SurveyTest {
    public static void main(String[] args) {
        counts();
        levels();
        many();
        manyAgainstDeep();
        broken();
        volumeFirst();
        Due.end();
    }

    private static void due(String what, Image image, int want) {
        Due.due("survey(), " + what, image.loader().survey(), want);
    }

    private static void counts() {
        due("nothing", new Image(), 0);
        due("two files", new Image().entry(2, 0, "A", 0, 0, 0).entry(2, 1, "B", 0, 99, 65535), 2);
        Image image = new Image().chain(2, 9)
            .entry(2, 0, "A", Image.FILE, 0, 0).entry(2, 1, "D", Image.DIRECTORY, 3, 0).chain(3)
            .entry(2, 2, "\u00e5", Image.DIRECTORY, 0, 0).entry(2, 3, "V", Image.PASSED, 0, 0)
            .entry(9, 0, "E", Image.DIRECTORY, 4, 0).chain(4).entry(9, 1, "B", Image.FILE, 0, 0)
            .entry(9, 3, "C", Image.FILE, 0, 0)
            .entry(3, 0, "F", Image.FILE, 0, 0).entry(3, 1, "G", Image.DIRECTORY, 5, 0).chain(5)
            .entry(5, 0, "H", Image.FILE, 0, 0).entry(5, 1, "I", Image.FILE, 0, 0);
        due("files and directories", image, 5 + 3000);
        due("the same directory twice", image.entry(9, 0, "E", Image.DIRECTORY, 3, 0), 8 + 4000);
        ChainLoader x = image.loader("A");
        Due.due("survey() once", x.survey(), 8 + 4000);
        Due.due("survey() again", x.survey(), 8 + 4000);
        Due.due("scrap() after survey()", x.scrap(), 1);
    }

    /** Directories one in the other, each with a file before and behind the next directory. */
    private static Image nested(int depth) {
        Image image = new Image();
        for (int level = 0; level <= depth; level++) {
            image.chain(2 + level).entry(2 + level, 0, "A", Image.FILE, 0, 0);
            if (level < depth) {
                image.entry(2 + level, 1, "D", Image.DIRECTORY, 3 + level, 0).entry(2 + level, 2, "B", Image.FILE, 0, 0);
            }
        }
        return image;
    }

    private static void levels() {
        for (int depth = 0; depth <= 4; depth++) {
            due("depth " + depth, nested(depth), 1001 * depth + 1 + depth);
        }
        due("depth 5", nested(5), ChainLoader.DEEP);
        due("depth 6", nested(6), ChainLoader.DEEP);
        due("depth 5, broken there", nested(5).link(7, 0), ChainLoader.DEEP);
        due("depth 5, from nowhere", nested(4).entry(6, 1, "D", Image.DIRECTORY, 0, 0), ChainLoader.DEEP);
        due("depth 5, passed over", nested(4).entry(6, 1, "D", Image.DIRECTORY | Image.PASSED, 0, 0), 4 * 1001 + 5);
        due("the root in itself", new Image().entry(2, 0, "D", Image.DIRECTORY, 2, 0), ChainLoader.DEEP);
        due("broken before deep", nested(5).entry(2, 0, "X", Image.DIRECTORY, 0, 0), ChainLoader.BROKEN);
        due("deep before broken", nested(5).entry(2, 2, "X", Image.DIRECTORY, 0, 0), ChainLoader.DEEP);
    }

    /** A root with the clusters 2, 3, .. filled with so many files. */
    private static Image filled(int files) {
        Image image = new Image();
        int clusters = Math.max(1, (files + 3) / 4);
        for (int k = 0; k < clusters; k++) {
            image.link(2 + k, k + 1 < clusters ? 3 + k : Image.END);
        }
        for (int k = 0; k < files; k++) {
            image.entry(2 + k / 4, k % 4, "F", Image.FILE, 0, 0);
        }
        return image;
    }

    /** A root with so many entries, the first ones directories that are all cluster 59 with four files. */
    private static Image shared(int entries, int directories) {
        Image image = filled(entries).chain(59);
        for (int k = 0; k < directories; k++) {
            image.entry(2 + k / 4, k % 4, "D", Image.DIRECTORY, 59, 0);
        }
        for (int slot = 0; slot < 4; slot++) {
            image.entry(59, slot, "G", Image.FILE, 0, 0);
        }
        return image;
    }

    private static void many() {
        due("228 files", filled(228), 228);
        due("250 entries", shared(50, 50), 50200);
        due("251 entries", shared(51, 50), ChainLoader.MANY);
        due("246 entries", shared(50, 49), 49197);
        due("250 of other kinds", shared(210, 10), 10240);
        due("251 of other kinds", shared(211, 10), ChainLoader.MANY);
        due("passed over ones do not count", shared(51, 50).entry(14, 2, "F", Image.PASSED, 0, 0), 50200);
        due("the 251st is broken", shared(51, 50).entry(14, 2, "X", Image.DIRECTORY, 0, 0), ChainLoader.MANY);
        due("the 250th is broken", shared(54, 49).entry(15, 1, "X", Image.DIRECTORY, 0, 0), ChainLoader.BROKEN);
    }

    /** So many files, then directories down to the fourth level with one more directory in it. */
    private static Image deepBehind(int files) {
        Image image = shared(files, 0).chain(52).chain(53).chain(54).chain(55);
        int cluster = 2 + files / 4;
        image.link(cluster - 1, cluster).chain(cluster).entry(cluster, files % 4, "D", Image.DIRECTORY, 52, 0);
        for (int k = 52; k < 55; k++) {
            image.entry(k, 0, "D", Image.DIRECTORY, k + 1, 0);
        }
        return image.entry(55, 0, "D", Image.DIRECTORY, 56, 0);
    }

    private static void manyAgainstDeep() {
        due("deep at the 5th", deepBehind(8), ChainLoader.DEEP);
        Image image = deepBehind(40);
        for (int k = 0; k < 40; k++) {
            image.entry(2 + k / 4, k % 4, "D", Image.DIRECTORY, 59, 0);
        }
        // Forty directories of four files are 200 entries; four directories follow, then the one that is too deep.
        due("deep at the 205th", image, ChainLoader.DEEP);
        for (int k = 0; k < 45; k++) {
            addFile(image, k);
        }
        due("deep at the 250th", image, ChainLoader.DEEP);
        addFile(image, 45);
        due("many at the 251st, which would be deep", image, ChainLoader.MANY);
    }

    /** Puts file k before what is in the third level's directory: its chain is then 20, 21, .. and 54. */
    private static void addFile(Image image, int k) {
        image.entry(53, 0, "D", Image.DIRECTORY, 20, 0);
        int cluster = 20 + k / 4;
        image.entry(cluster, k % 4, "F", Image.FILE, 0, 0);
        image.link(cluster, 54);
        if (k > 3) {
            image.link(cluster - 1, cluster);
        }
        // Slots of the last cluster that are still free must not end the directory.
        for (int slot = k % 4 + 1; slot < 4; slot++) {
            image.entry(cluster, slot, "\u00e5", Image.FILE, 0, 0);
        }
    }

    private static void broken() {
        due("root", new Image().link(2, 0), ChainLoader.BROKEN);
        due("root, behind its end", new Image().entry(2, 0, "A", 0, 0, 0).link(2, 3).link(3, 2), ChainLoader.BROKEN);
        due("a directory in the root", new Image().entry(2, 0, "D", Image.DIRECTORY, 3, 0), ChainLoader.BROKEN);
        due("a directory from 1", new Image().entry(2, 0, "D", Image.DIRECTORY, 1, 0), ChainLoader.BROKEN);
        due("a directory of the fourth level", nested(4).link(6, 6), ChainLoader.BROKEN);
        due("a file", new Image().entry(2, 0, "A", Image.FILE, 1, 77), 1);
        due("behind the end of the root", new Image().entry(2, 1, "D", Image.DIRECTORY, 0, 0), 0);
    }

    private static void volumeFirst() {
        due("bad volume", nested(5).volume(0, 0), ChainLoader.BAD_VOLUME);
        due("no partition", nested(5).put(7, 0), ChainLoader.NO_PARTITION);
        due("no disk", nested(5).put(30, 0), ChainLoader.NO_DISK);
    }
}

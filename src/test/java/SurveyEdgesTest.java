/** The edges of promise 10. Each method tests one sentence. */
public final class SurveyEdgesTest {
    public static void main(String[] args) {
        rootIsNotCounted();
        countsUpTo250();
        manyAtThe251st();
        manyCountsDirectoriesAndFilesAlike();
        manyDoesNotCountPassedOverOnes();
        manyDoesNotCountBehindTheEnd();
        manyComesBeforeDeep();
        manyComesBeforeBroken();
        deepBelowTheFourthLevel();
        deepIsForDirectoriesAlone();
        deepComesBeforeBroken();
        brokenAtADirectory();
        firstOfThese();
        countsBeginAnew();
        volumeFirst();
        Due.end();
    }

    private static void due(String what, Image image, int want) {
        Due.due("survey(), " + what, image.loader().survey(), want);
    }

    /** A root of so many entries in clusters from 2 on; cluster 58 is an empty directory, 59 one with the directory 58. */
    private static Image rootOf(int entries) {
        Image image = new Image();
        int clusters = Math.max(1, (entries + 3) / 4);
        for (int k = 0; k < clusters; k++) {
            image.link(2 + k, k + 1 < clusters ? 3 + k : Image.END);
        }
        for (int k = 0; k < entries; k++) {
            image.entry(2 + k / 4, k % 4, "F", Image.FILE, 0, 0);
        }
        return image.chain(58).chain(59).entry(59, 0, "S", Image.DIRECTORY, 58, 0);
    }

    /** Makes entry k of the root a directory from such a cluster. */
    private static Image directory(Image image, int k, int first) {
        return image.entry(2 + k / 4, k % 4, "D", Image.DIRECTORY, first, 0);
    }

    /** A root of 200 entries whose first so many are directories with one directory each, the others such as told. */
    private static Image root200(int doubles, boolean othersAreDirectories) {
        Image image = rootOf(200);
        for (int k = 0; k < 200; k++) {
            if (k < doubles) {
                directory(image, k, 59);
            } else if (othersAreDirectories) {
                directory(image, k, 58);
            }
        }
        return image;
    }

    /** "(the root not counted)" */
    private static void rootIsNotCounted() {
        due("an empty root", new Image(), 0);
        due("one file", rootOf(1), 1);
        due("one directory", directory(rootOf(1), 0, 58), 1000);
    }

    /** "How many files .. plus 1000 times how many directories": the largest answers there are. */
    private static void countsUpTo250() {
        due("224 files", rootOf(224), 224);
        due("250 directories", root200(50, true), 250000);
        due("100 directories, 150 files", root200(50, false), 100150);
    }

    /** "MANY at the 251st entry that is not passed over" */
    private static void manyAtThe251st() {
        due("250 directories", root200(50, true), 250000);
        due("251 directories", root200(51, true), ChainLoader.MANY);
        due("250 entries", root200(50, false), 100150);
        due("251 entries", root200(51, false), ChainLoader.MANY);
    }

    private static void manyCountsDirectoriesAndFilesAlike() {
        for (int files = 0; files <= 4; files++) {
            Image image = root200(50, true);
            for (int k = 0; k < files; k++) {
                image.entry(51 - k / 4, 3 - k % 4, "F", Image.FILE, 0, 0);
            }
            due("250 with " + files + " files", image, 1000 * (250 - files) + files);
            due("251 with " + files + " files", image.entry(59, 1, "F", Image.FILE, 0, 0), ChainLoader.MANY);
        }
    }

    private static void manyDoesNotCountPassedOverOnes() {
        Image image = root200(51, false);
        due("251", image, ChainLoader.MANY);
        due("one of them with bit 8", image.entry(51, 3, "F", Image.PASSED, 0, 0), 102148);
        image.entry(51, 3, "F", Image.FILE, 0, 0);
        due("one of them with 229", image.put(image.entryPlace(51, 3), 229), 102148);
    }

    private static void manyDoesNotCountBehindTheEnd() {
        Image image = root200(51, false);
        due("the 200th ends the root", image.put(image.entryPlace(51, 3), 0), 102148);
    }

    /** A root of 99 directories of one directory, then one that goes down to a directory of the fifth level. */
    private static Image deepAtThe203rd() {
        Image image = rootOf(100);
        for (int k = 0; k < 99; k++) {
            directory(image, k, 59);
        }
        directory(image, 99, 53);
        for (int k = 53; k < 56; k++) {
            image.chain(k).entry(k, 0, "D", Image.DIRECTORY, k + 1, 0);
        }
        return image.chain(56).entry(56, 0, "D", Image.DIRECTORY, 58, 0);
    }

    /** The same with so many files before the directory of the fifth level. */
    private static Image deepBehind(int files) {
        Image image = deepAtThe203rd();
        int[] chain = new int[(files + 3) / 4 + 1];
        for (int k = 0; k < chain.length - 1; k++) {
            chain[k] = 30 + k;
            for (int slot = 0; slot < 4; slot++) {
                image.entry(30 + k, slot, 4 * k + slot < files ? "F" : "\u00e5", Image.FILE, 0, 0);
            }
        }
        chain[chain.length - 1] = 56;
        return image.chain(chain).entry(55, 0, "D", Image.DIRECTORY, chain[0], 0);
    }

    /** "(also of one that would be DEEP)" */
    private static void manyComesBeforeDeep() {
        // 99 directories of one directory are 198 entries, then come the four on the way down: 202.
        due("deep at the 203rd", deepAtThe203rd(), ChainLoader.DEEP);
        due("deep at the 249th", deepBehind(46), ChainLoader.DEEP);
        due("deep at the 250th", deepBehind(47), ChainLoader.DEEP);
        due("many at the 251st", deepBehind(48), ChainLoader.MANY);
        due("many before deep", deepBehind(49), ChainLoader.MANY);
    }

    private static void manyComesBeforeBroken() {
        Image image = root200(50, false);
        due("the 250th is broken", directory(image, 199, 0), ChainLoader.BROKEN);
        image = root200(51, false);
        due("the 251st is broken", directory(image, 199, 0), ChainLoader.MANY);
    }

    /** Directories one in the other, so many below the root, in clusters from 3 on. */
    private static Image nested(int levels) {
        Image image = new Image();
        for (int k = 0; k < levels; k++) {
            image.entry(2 + k, 0, "D", Image.DIRECTORY, 3 + k, 0).chain(3 + k);
        }
        return image;
    }

    /** "DEEP at an entry of a directory in a directory of the fourth level below the root" */
    private static void deepBelowTheFourthLevel() {
        for (int levels = 0; levels <= 4; levels++) {
            due(levels + " levels", nested(levels), 1000 * levels);
        }
        for (int levels = 5; levels <= 8; levels++) {
            due(levels + " levels", nested(levels), ChainLoader.DEEP);
        }
        due("a directory in itself", nested(1).entry(3, 0, "D", Image.DIRECTORY, 3, 0), ChainLoader.DEEP);
        due("the root in the root", nested(1).entry(2, 0, "D", Image.DIRECTORY, 2, 0), ChainLoader.DEEP);
        due("passed over", nested(4).entry(6, 0, "D", 24, 7, 0), 4000);
        due("behind the end", nested(4).entry(6, 1, "D", Image.DIRECTORY, 7, 0), 4000);
    }

    private static void deepIsForDirectoriesAlone() {
        due("a file in the fourth level", nested(4).entry(6, 0, "F", Image.FILE, 7, 9), 4001);
        due("a file, then a directory", nested(4).entry(6, 0, "F", Image.FILE, 7, 9).entry(6, 1, "D", Image.DIRECTORY, 7, 0),
            ChainLoader.DEEP);
    }

    private static void deepComesBeforeBroken() {
        for (int first = 0; first < 256; first += 51) {
            due("a directory of the fifth level from " + first, nested(4).entry(6, 0, "D", Image.DIRECTORY, first, 0), ChainLoader.DEEP);
        }
        due("a directory of the fourth level from 0", nested(3).entry(5, 0, "D", Image.DIRECTORY, 0, 0), ChainLoader.BROKEN);
    }

    /** "BROKEN at a directory whose chain is" */
    private static void brokenAtADirectory() {
        for (int level = 0; level <= 4; level++) {
            due("level " + level, nested(4).link(2 + level, 0), ChainLoader.BROKEN);
            due("level " + level + ", a ring", nested(4).link(2 + level, 2 + level), ChainLoader.BROKEN);
            due("level " + level + ", whole", nested(4).link(2 + level, 4088), 4000);
        }
        due("a file whose content is broken", new Image().entry(2, 0, "F", Image.FILE, 0, 99), 1);
        due("passed over", new Image().entry(2, 0, "D", 24, 0, 0), 0);
    }

    /** "Entries are gone over in their order, and what is in a directory when its entry is met; it ends at the first of these" */
    private static void firstOfThese() {
        Image brokenFirst = nested(5).entry(2, 1, "B", Image.DIRECTORY, 0, 0);
        due("deep, then broken", brokenFirst, ChainLoader.DEEP);
        Image deepLater = nested(5).entry(2, 1, "D", Image.DIRECTORY, 3, 0).entry(2, 0, "B", Image.DIRECTORY, 0, 0);
        due("broken, then deep", deepLater, ChainLoader.BROKEN);
        Image inside = nested(2).entry(3, 1, "B", Image.DIRECTORY, 0, 0).entry(2, 1, "E", Image.DIRECTORY, 40, 0).chain(40)
            .entry(40, 0, "D", Image.DIRECTORY, 2, 0);
        due("broken inside the first, then deep", inside, ChainLoader.BROKEN);
        due("no break: deep", inside.entry(3, 1, "B", Image.FILE, 0, 0), ChainLoader.DEEP);
        // With 60 directories of one directory, entry k of the root is met as number k + 61.
        due("broken at the 250th, then many", directory(root200(60, false), 189, 0), ChainLoader.BROKEN);
        due("many at the 251st, then broken", directory(root200(60, false), 191, 0), ChainLoader.MANY);
    }

    private static void countsBeginAnew() {
        ChainLoader x = root200(51, false).loader();
        Due.due("survey()", x.survey(), ChainLoader.MANY);
        Due.due("survey() again", x.survey(), ChainLoader.MANY);
        x.poke(new Image().entryPlace(51, 3), 0, 1);
        Due.due("survey() of one less", x.survey(), 102148);
        Due.due("survey() of one less, again", x.survey(), 102148);
        x.poke(30, 0, 1);
        Due.due("survey() of no disk", x.survey(), ChainLoader.NO_DISK);
    }

    /** "What volume() says if that is less than 0." */
    private static void volumeFirst() {
        Image image = nested(5).volume(0, 0);
        due("bad volume", image, ChainLoader.BAD_VOLUME);
        due("no partition", image.put(7, 0), ChainLoader.NO_PARTITION);
        due("no disk", image.put(30, 0), ChainLoader.NO_DISK);
    }
}

/** The edges of "A PATH", as promises 7, 9 and 11 meet them. Each method tests one sentence. */
public final class PathEdgesTest {
    public static void main(String[] args) {
        oneToFourNames();
        slashBetweenTwo();
        namesOf1To4Characters();
        typedCharacters();
        settingsCharacters();
        foundFromTheRoot();
        firstEntryWithTheName();
        goingOnBroken();
        goingOnAbsent();
        goingOnNotDirectory();
        badPathComesBeforeFinding();
        Due.end();
    }

    /** Directories A in the root, B in A, C in B, each with a file F. */
    private static Image deep() {
        Image image = new Image();
        String[] names = {"A", "B", "C"};
        for (int k = 0; k < 3; k++) {
            image.entry(2 + k, 0, names[k], Image.DIRECTORY, 3 + k, 0);
        }
        for (int k = 0; k < 4; k++) {
            image.chain(2 + k).entry(2 + k, 1, "F", Image.FILE, 0, 10 + k).entry(2 + k, 2, "E", Image.DIRECTORY, 9, 0);
        }
        return image.entry(5, 0, "D", Image.DIRECTORY, 6, 0).chain(6).chain(9);
    }

    /** What size(), list() and boot() say of a path; list() of the empty text is another matter. */
    private static void due(String what, Image image, String path, int want) {
        Due.due("size() of '" + path + "', " + what, image.loader(path).size(), want);
        if (!path.isEmpty()) {
            long listed = want >= 0 ? ChainLoader.NOT_DIRECTORY : want == ChainLoader.IS_DIRECTORY ? ChainLoader.BAD : want;
            Due.due("list(99) of '" + path + "', " + what, image.loader(path).list(99), listed);
        }
        image.text(2, 3, "BOOT", "K=" + path, 20);
        // The files have no header, as far as they have bytes that are there.
        int booted = want >= 0 ? ChainLoader.BROKEN : want;
        Due.due("boot() of '" + path + "', " + what, image.loader().boot(), booted);
    }

    /** "one to four names" */
    private static void oneToFourNames() {
        due("no name", deep(), "", ChainLoader.BAD_PATH);
        due("one name", deep(), "F", 10);
        due("two names", deep(), "A/F", 11);
        due("three names", deep(), "A/B/F", 12);
        due("four names", deep(), "A/B/C/F", 13);
        due("four names", deep(), "A/B/C/D", ChainLoader.IS_DIRECTORY);
        due("five names", deep(), "A/B/C/D/F", ChainLoader.BAD_PATH);
        due("six names", deep(), "A/B/C/D/F/F", ChainLoader.BAD_PATH);
        due("ten names", deep(), "A/B/C/D/F/F/F/F/F/F", ChainLoader.BAD_PATH);
    }

    /** "with a / between two" */
    private static void slashBetweenTwo() {
        String[] none = {"/", "//", "///", "////", "/A", "A/", "/A/", "A//B", "A/B/", "/A/B", "A/B/C/F/", "/A/B/C/F", "A///B", "A/B//F"};
        for (String path : none) {
            due("an empty name", deep(), path, ChainLoader.BAD_PATH);
        }
        String[] other = {"A\\F", "A F", "A.F", "A,F", "A-F", "A:F"};
        for (String path : other) {
            due("no slash", deep(), path, ChainLoader.BAD_PATH);
        }
    }

    /** "each name 1 to 4 characters" */
    private static void namesOf1To4Characters() {
        String[] before = {"", "A/", "A/B/", "A/B/C/"};
        for (String names : before) {
            due("0 characters", deep(), names, ChainLoader.BAD_PATH);
            due("1 character", deep(), names + "Z", ChainLoader.ABSENT);
            due("4 characters", deep(), names + "ZZZZ", ChainLoader.ABSENT);
            due("5 characters", deep(), names + "ZZZZZ", ChainLoader.BAD_PATH);
        }
        String[] behind = {"/F", "/B/F", "/B/C/F"};
        for (String names : behind) {
            due("4 characters", deep(), "ZZZZ" + names, ChainLoader.ABSENT);
            due("5 characters", deep(), "ZZZZZ" + names, ChainLoader.BAD_PATH);
        }
        due("all of 4 characters", deep(), "ZZZZ/ZZZZ/ZZZZ/ZZZZ", ChainLoader.ABSENT);
        due("a name of 5 that begins with a known one", deep().entry(2, 1, "ABCD", Image.FILE, 0, 7), "ABCDE", ChainLoader.BAD_PATH);
        due("a name of 4", deep().entry(2, 1, "ABCD", Image.FILE, 0, 7), "ABCD", 7);
    }

    private static boolean isNameCharacter(int code) {
        return "ABCDEFGHIJKLMNOPQRSTUVWXYZ0123456789".indexOf(code) >= 0;
    }

    /** "A .. Z or 0 .. 9" */
    private static void typedCharacters() {
        for (int code = 32; code <= 126; code++) {
            char c = (char) code;
            String[] paths = {"" + c, "Z" + c, "ZZZ" + c, "A/" + c + "Z"};
            for (String path : paths) {
                Image image = new Image().entry(2, 0, "A", Image.DIRECTORY, 3, 0).chain(3);
                // A slash makes no path here either, as one of the names is then empty.
                int want = isNameCharacter(c) ? ChainLoader.ABSENT : ChainLoader.BAD_PATH;
                if (path.equals("A")) {
                    want = ChainLoader.IS_DIRECTORY;
                }
                Due.due("size() of '" + path + "'", image.loader(path).size(), want);
            }
        }
    }

    /** The same of a path in the settings, which may have any byte but the line's end. */
    private static void settingsCharacters() {
        for (int code = 0; code < 256; code++) {
            if (code == 10) {
                continue;
            }
            int want = isNameCharacter(code) ? ChainLoader.ABSENT : ChainLoader.BAD_PATH;
            Due.due("boot() of " + code, new Image().text(2, 0, "BOOT", "K=" + (char) code, 20).loader().boot(), want);
            Due.due("boot() of Y and " + code, new Image().text(2, 0, "BOOT", "K=Y" + (char) code, 20).loader().boot(), want);
        }
    }

    /** "FOUND by going from the root": wherever the root is. */
    private static void foundFromTheRoot() {
        Due.due("size(), the root in cluster 4", deep().volume(5, 4).loader("C/F").size(), 13);
        Due.due("size(), the root in cluster 4", deep().volume(5, 4).loader("A").size(), ChainLoader.ABSENT);
        Due.due("size(), the root in cluster 5", deep().volume(5, 5).loader("F").size(), 13);
        Due.due("list(0), the root in cluster 5", deep().volume(5, 5).loader().list(0), 'D' | 0x20202000L);
        Due.due("survey(), the root in cluster 5", deep().volume(5, 5).loader().survey(), 2001);
    }

    /** "in each directory the first entry that is not passed over and has the name" */
    private static void firstEntryWithTheName() {
        Image twice = new Image().entry(2, 0, "F", Image.FILE, 0, 1).entry(2, 1, "F", Image.FILE, 0, 2);
        Due.due("size(), two of the name", twice.loader("F").size(), 1);
        Due.due("size(), the first passed over", twice.entry(2, 0, "F", Image.PASSED, 0, 1).loader("F").size(), 2);
        Due.due("size(), both passed over", twice.entry(2, 1, "F", 24, 0, 2).loader("F").size(), ChainLoader.ABSENT);
        Image fileFirst = new Image().entry(2, 0, "A", Image.FILE, 0, 1).entry(2, 1, "A", Image.DIRECTORY, 3, 0).chain(3)
            .entry(3, 0, "F", Image.FILE, 0, 5);
        Due.due("size(), a file first", fileFirst.loader("A/F").size(), ChainLoader.NOT_DIRECTORY);
        Due.due("size(), the file passed over", fileFirst.entry(2, 0, "A", Image.PASSED, 0, 1).loader("A/F").size(), 5);
        Image emptyFirst = new Image().entry(2, 0, "A", Image.DIRECTORY, 4, 0).chain(4).entry(2, 1, "A", Image.DIRECTORY, 3, 0).chain(3)
            .entry(3, 0, "F", Image.FILE, 0, 5);
        Due.due("size(), an empty directory first", emptyFirst.loader("A/F").size(), ChainLoader.ABSENT);
    }

    /** "BROKEN if the directory's chain is broken": on each level, whether the name is there or not. */
    private static void goingOnBroken() {
        String[] before = {"", "A/", "A/B/", "A/B/C/"};
        for (int level = 0; level < 4; level++) {
            Image image = deep().link(2 + level, 2 + level);
            Due.due("size(), level " + level + " broken", image.loader(before[level] + "F").size(), ChainLoader.BROKEN);
            Due.due("size() of an absent one, level " + level, image.loader(before[level] + "Z").size(), ChainLoader.BROKEN);
            if (level > 0) {
                Due.due("size() above, level " + level, image.loader(before[level - 1] + "F").size(), 9 + level);
                String directory = before[level].substring(0, before[level].length() - 1);
                Due.due("size() of it, level " + level, image.loader(directory).size(), ChainLoader.IS_DIRECTORY);
                Due.due("list(0) of it, level " + level, image.loader(directory).list(0), ChainLoader.BROKEN);
            }
        }
    }

    /** "ABSENT if there is no such entry": on each level, also if there are more names. */
    private static void goingOnAbsent() {
        String[] absent = {"Z", "A/Z", "A/B/Z", "A/B/C/Z", "Z/B", "Z/B/C/D", "A/Z/C", "A/B/Z/D", "E/Z", "A/E/Z", "A/B/E/Z"};
        for (String path : absent) {
            due("absent", deep(), path, ChainLoader.ABSENT);
        }
    }

    /** "NOT_DIRECTORY if there are more names and it is none" */
    private static void goingOnNotDirectory() {
        String[] below = {"F/A", "F/A/B", "F/A/B/C", "A/F/B", "A/F/B/C", "A/B/F/C"};
        for (String path : below) {
            due("below a file", deep(), path, ChainLoader.NOT_DIRECTORY);
        }
        due("no more names", deep(), "A/B/F", 12);
        due("five names", deep(), "A/B/C/F/X", ChainLoader.BAD_PATH);
    }

    private static void badPathComesBeforeFinding() {
        due("absent and no path", deep(), "Z/a", ChainLoader.BAD_PATH);
        due("below a file and no path", deep(), "F/", ChainLoader.BAD_PATH);
        Due.due("size() of no path, root broken", deep().link(2, 0).loader("a").size(), ChainLoader.BAD_PATH);
        Due.due("list(0) of no path, root broken", deep().link(2, 0).loader("a").list(0), ChainLoader.BAD_PATH);
    }
}

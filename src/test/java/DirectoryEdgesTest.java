/** The edges of "DIRECTORIES", as promises 7 to 10 meet them. Each method tests one sentence. */
public final class DirectoryEdgesTest {
    public static void main(String[] args) {
        namesAreFilledUpWithBlanks();
        firstByte0Ends();
        firstByte0EndsWhateverFollows();
        firstByte0EndsInEachPlace();
        chainsEndEnds();
        passedOverOnes();
        attributes();
        sizeIsAWord();
        emptyDirectory();
        Due.end();
    }

    private static long name(Image image, int cluster, int slot) {
        int at = image.entryPlace(cluster, slot);
        long number = 0;
        for (int k = 3; k >= 0; k--) {
            number = number << 8 | image.bytes[at + k] & 255;
        }
        return number;
    }

    /** "four bytes of a name, filled up with blanks (32)" */
    private static void namesAreFilledUpWithBlanks() {
        String[] names = {"A", "AB", "ABC", "ABCD"};
        for (int stored = 0; stored < 4; stored++) {
            for (int asked = 0; asked < 4; asked++) {
                Image image = new Image().entry(2, 0, names[stored], Image.FILE, 0, 5);
                Due.due("size() of " + names[asked] + " in " + names[stored], image.loader(names[asked]).size(),
                    stored == asked ? 5 : ChainLoader.ABSENT);
            }
        }
        for (int filler = 0; filler < 256; filler++) {
            for (int k = 1; k < 4; k++) {
                Image image = new Image().entry(2, 0, "A", Image.FILE, 0, 5);
                image.put(image.entryPlace(2, 0) + k, filler);
                Due.due("size() of A, byte " + k + " of the name " + filler, image.loader("A").size(),
                    filler == 32 ? 5 : ChainLoader.ABSENT);
            }
        }
        Image before = new Image().entry(2, 0, " A", Image.FILE, 0, 5);
        Due.due("size() of A, blanks before it", before.loader("A").size(), ChainLoader.ABSENT);
    }

    /** "An entry whose first byte is 0 ends the directory", "one with 229 there .. is passed over" */
    private static void firstByte0Ends() {
        for (int first = 0; first < 256; first++) {
            Image image = new Image().entry(2, 0, "A", Image.FILE, 0, 0).entry(2, 1, "Z", Image.FILE, 0, 7);
            image.put(image.entryPlace(2, 0), first);
            long own = name(image, 2, 0);
            long behind = name(image, 2, 1);
            boolean ends = first == 0;
            boolean passed = first == 229;
            String what = ", first byte " + first;
            Due.due("list(0)" + what, image.loader().list(0), ends ? ChainLoader.BAD : passed ? behind : own);
            Due.due("list(1)" + what, image.loader().list(1), ends || passed ? ChainLoader.BAD : behind);
            Due.due("size() of Z" + what, image.loader("Z").size(), ends ? ChainLoader.ABSENT : first == 'Z' ? 0 : 7);
            Due.due("survey()" + what, image.loader().survey(), ends ? 0 : passed ? 1 : 2);
        }
    }

    private static void firstByte0EndsWhateverFollows() {
        for (int attributes = 0; attributes < 256; attributes++) {
            Image image = new Image().entry(2, 0, "\0BC", attributes, 3, 9).entry(2, 1, "Z", Image.FILE, 0, 7);
            String what = ", attributes " + attributes;
            Due.due("list(0) of an end" + what, image.loader().list(0), ChainLoader.BAD);
            Due.due("size() of Z behind an end" + what, image.loader("Z").size(), ChainLoader.ABSENT);
            Due.due("survey() of an end" + what, image.loader().survey(), 0);
        }
    }

    /** An end in entry k of three clusters with twelve entries: k entries stand before it. */
    private static void firstByte0EndsInEachPlace() {
        int[] clusters = {2, 9, 5};
        for (int end = 0; end < 12; end++) {
            Image image = new Image().chain(clusters);
            for (int k = 0; k < 12; k++) {
                image.entry(clusters[k / 4], k % 4, "" + (char) ('A' + k), Image.FILE, 0, k);
            }
            image.put(image.entryPlace(clusters[end / 4], end % 4), 0);
            ChainLoader x = image.loader();
            Due.due("survey(), end in " + end, x.survey(), end);
            Due.due("list(" + end + "), end in " + end, x.list(end), ChainLoader.BAD);
            if (end > 0) {
                int last = end - 1;
                Due.due("list(" + last + "), end in " + end, x.list(last), name(image, clusters[last / 4], last % 4));
            }
            Due.due("size() of L, end in " + end, image.loader("L").size(), ChainLoader.ABSENT);
        }
    }

    /** "(so does the chain's end)" */
    private static void chainsEndEnds() {
        int[] sectors = {1, 2, 4};
        for (int c : sectors) {
            Image wide = new Image(1, 63, c, 1, 1, 4);
            int slots = 4 * c;
            for (int k = 0; k < slots; k++) {
                wide.entry(2, k, "F", Image.FILE, 0, 1).entry(3, k, "G", Image.FILE, 0, 2);
            }
            Due.due("survey(), one cluster", wide.loader().survey(), slots);
            Due.due("list of the last", wide.loader().list(slots - 1), 'F' | 0x20202000L);
            Due.due("list behind it", wide.loader().list(slots), ChainLoader.BAD);
            Due.due("size() of G", wide.loader("G").size(), ChainLoader.ABSENT);
            wide.chain(2, 3);
            Due.due("survey(), two clusters", wide.loader().survey(), 2 * slots);
            Due.due("list behind the first cluster", wide.loader().list(slots), 'G' | 0x20202000L);
            Due.due("list behind the second cluster", wide.loader().list(2 * slots), ChainLoader.BAD);
            Due.due("size() of G", wide.loader("G").size(), 2);
        }
    }

    /** Passed over ones may stand first, last, alone, and side by side. */
    private static void passedOverOnes() {
        for (int marks = 0; marks < 256; marks++) {
            Image image = new Image().chain(2, 3);
            int left = 0;
            for (int k = 0; k < 8; k++) {
                boolean passed = (marks >> k & 1) != 0;
                boolean byName = k % 2 == 0;
                String letter = passed && byName ? "\u00e5" : "" + (char) ('A' + k);
                image.entry(2 + k / 4, k % 4, letter, passed && !byName ? Image.PASSED : Image.FILE, 0, k);
                left += passed ? 0 : 1;
            }
            ChainLoader x = image.loader();
            Due.due("survey(), passed over " + marks, x.survey(), left);
            Due.due("list(" + left + "), passed over " + marks, x.list(left), ChainLoader.BAD);
            int i = 0;
            for (int k = 0; k < 8; k++) {
                if ((marks >> k & 1) == 0) {
                    Due.due("list(" + i + "), passed over " + marks, x.list(i), name(image, 2 + k / 4, k % 4));
                    i++;
                }
            }
        }
    }

    /** "or with the attributes' bit 8, is passed over", "The attributes' bit 16 says that it is a directory." */
    private static void attributes() {
        for (int value = 0; value < 256; value++) {
            boolean passed = value / 8 % 2 == 1;
            boolean directory = value / 16 % 2 == 1;
            Image image = new Image().entry(2, 0, "A", value, 3, 7).chain(3);
            String what = ", attributes " + value;
            int want = passed ? ChainLoader.ABSENT : directory ? ChainLoader.IS_DIRECTORY : 7;
            Due.due("size()" + what, image.loader("A").size(), want);
            Due.due("list(0) of the root" + what, image.loader().list(0), passed ? ChainLoader.BAD : 'A' | 0x20202000L);
            int listed = passed ? ChainLoader.ABSENT : directory ? ChainLoader.BAD : ChainLoader.NOT_DIRECTORY;
            Due.due("list(0) of A" + what, image.loader("A").list(0), listed);
            Due.due("survey()" + what, image.loader().survey(), passed ? 0 : directory ? 1000 : 1);
            int below = passed ? ChainLoader.ABSENT : directory ? ChainLoader.ABSENT : ChainLoader.NOT_DIRECTORY;
            Due.due("size() of A/B" + what, image.loader("A/B").size(), below);
        }
    }

    /** "the size, a word" */
    private static void sizeIsAWord() {
        int[] sizes = {0, 1, 127, 128, 255, 256, 257, 32767, 32768, 65280, 65535};
        for (int size : sizes) {
            Due.due("size()", new Image().entry(2, 3, "A", Image.FILE, 0, size)
                .entry(2, 0, "B", 0, 0, 0).entry(2, 1, "C", 0, 0, 0).entry(2, 2, "D", 0, 0, 0).loader("A").size(), size);
        }
    }

    private static void emptyDirectory() {
        Image image = new Image().entry(2, 0, "D", Image.DIRECTORY, 3, 0).chain(3);
        Due.due("list(0) of an empty directory", image.loader("D").list(0), ChainLoader.BAD);
        Due.due("size() in an empty directory", image.loader("D/A").size(), ChainLoader.ABSENT);
        Due.due("survey() with an empty directory", image.loader().survey(), 1000);
        Due.due("list(0) of an empty root", new Image().loader().list(0), ChainLoader.BAD);
        Due.due("size() in an empty root", new Image().loader("A").size(), ChainLoader.ABSENT);
        Due.due("survey() of an empty root", new Image().loader().survey(), 0);
    }
}

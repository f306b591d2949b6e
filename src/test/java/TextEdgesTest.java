/** The edges of promises 5 and 6: the path text. Each method tests one sentence. */
public final class TextEdgesTest {
    public static void main(String[] args) {
        twentyCharacters();
        codes32To126();
        refusedCharacterChangesNothing();
        refusedCharacterOfAFullTextChangesNothing();
        scrapAnswersHowMany();
        scrapEmpties();
        Due.end();
    }

    /** "false .. if it has 20 characters" */
    private static void twentyCharacters() {
        ChainLoader x = new ChainLoader();
        Image.type(x, "AAAABBBBCCCCDDDDEEE");
        Due.due("type, the 20th", x.type('F'), true);
        Due.due("type, the 21st", x.type('G'), false);
        Due.due("scrap()", x.scrap(), 20);
    }

    /** "false .. if .. the code is not 32 .. 126" */
    private static void codes32To126() {
        int[] refused = {0, 31, 127, 160, 255, 256 + 65, 65535};
        for (int code : refused) {
            Due.due("type(" + code + ")", new ChainLoader().type((char) code), false);
        }
        int[] taken = {32, 33, 125, 126};
        for (int code : taken) {
            Due.due("type(" + code + ")", new ChainLoader().type((char) code), true);
        }
    }

    /** "changing nothing": the text, and how many characters it has. */
    private static void refusedCharacterChangesNothing() {
        ChainLoader x = new Image().entry(2, 0, "AB", Image.FILE, 0, 7).loader("AB");
        x.type((char) 31);
        x.type((char) 127);
        Due.due("size() after refused characters", x.size(), 7);
        Due.due("scrap() after refused characters", x.scrap(), 2);
    }

    private static void refusedCharacterOfAFullTextChangesNothing() {
        ChainLoader x = new ChainLoader();
        for (int k = 0; k < 40; k++) {
            Due.due("type, number " + (k + 1), x.type('A'), k < 20);
        }
        Due.due("type, of a code that is refused too", x.type((char) 10), false);
        Due.due("scrap()", x.scrap(), 20);
        longestPath();
    }

    /** The longest path has 19 characters, so the 20th one spoils it and the 21st is as if it had not come. */
    private static void longestPath() {
        Image image = new Image().entry(2, 0, "AAAA", Image.DIRECTORY, 3, 0).chain(3)
            .entry(3, 0, "BBBB", Image.DIRECTORY, 4, 0).chain(4).entry(4, 0, "CCCC", Image.DIRECTORY, 5, 0).chain(5)
            .entry(5, 0, "DDDD", Image.FILE, 0, 99);
        ChainLoader x = image.loader("AAAA/BBBB/CCCC/DDDD");
        Due.due("size() of 19 characters", x.size(), 99);
        Due.due("type, the 20th", x.type('E'), true);
        Due.due("size() of 20 characters", x.size(), ChainLoader.BAD_PATH);
        Due.due("type, the 21st", x.type('/'), false);
        Due.due("scrap()", x.scrap(), 20);
    }

    /** "Answers how many characters it had." */
    private static void scrapAnswersHowMany() {
        ChainLoader x = new ChainLoader();
        for (int n = 0; n <= 20; n++) {
            for (int k = 0; k < n; k++) {
                x.type(' ');
            }
            Due.due("scrap() of " + n, x.scrap(), n);
        }
    }

    /** "The path text becomes empty." */
    private static void scrapEmpties() {
        ChainLoader x = new Image().entry(2, 0, "A", Image.FILE, 0, 7).loader("AAAABBBBCCCCDDDDEEEE");
        Due.due("scrap() of a full text", x.scrap(), 20);
        Due.due("scrap() of an empty text", x.scrap(), 0);
        Due.due("size() of an empty text", x.size(), ChainLoader.BAD_PATH);
        Due.due("list(0) of an empty text", x.list(0), 'A' | 0x20202000L);
        Due.due("type after scrap()", x.type('A'), true);
        Due.due("size() of a new text", x.size(), 7);
    }
}

/** The edges of "SETTINGS", as promise 11 meets them. Each method tests one sentence. */
public final class SettingsEdgesTest {
    private static final int LOADED = 0;
    private static final int OTHER = 1;

    public static void main(String[] args) {
        asForItsPath();
        contentBroken();
        moreThan200Bytes();
        brokenComesBeforeTooLong();
        linesEndBeforeTheByte10();
        linesEndWithTheFile();
        emptyLines();
        linesThatBeginWithAHash();
        secondByteIsAnEqualsSign();
        lettersOfLines();
        valuesAreAllBehind();
        argumentsUpTo24();
        lastLineOfALetterCounts();
        noK();
        settingsComeBeforeLoading();
        earlierSettingsSayNothing();
        Due.end();
    }

    private static void due(String what, Image image, int want) {
        Due.due("boot(), " + what, image.loader().boot(), want);
    }

    private static void dueText(String text, int want) {
        due("settings " + text.replace('\n', '|'), with(text), want);
    }

    /** BOOT with such a text, and a good kernel K. */
    private static Image with(String text) {
        Image image = new Image().file(2, 1, "K", Image.kernel(20, 0, 0, 64, 64), 20);
        if (text.isEmpty()) {
            return image.entry(2, 0, "BOOT", Image.FILE, 0, 0);
        }
        return image.text(2, 0, "BOOT", text, 10, 11, 12, 13, 14, 15, 16);
    }

    private static String repeated(char c, int times) {
        return String.valueOf(c).repeat(times);
    }

    /** "the file BOOT in the root: what comes before its content is read is answered as for its path (IS_DIRECTORY if it is one)" */
    private static void asForItsPath() {
        due("good", with("K=K"), LOADED);
        due("no BOOT", with("K=K").entry(2, 0, "BOO", Image.FILE, 10, 3), ChainLoader.ABSENT);
        due("BOOT behind the root's end", with("K=K").put(new Image().entryPlace(2, 0), 0), ChainLoader.ABSENT);
        due("BOOT erased", with("K=K").put(new Image().entryPlace(2, 0), 229), ChainLoader.ABSENT);
        due("BOOT with bit 8", with("K=K").entry(2, 0, "BOOT", 8, 10, 3), ChainLoader.ABSENT);
        due("BOOT a directory", with("K=K").entry(2, 0, "BOOT", 16, 10, 3), ChainLoader.IS_DIRECTORY);
        due("BOOT a directory from nowhere", with("K=K").entry(2, 0, "BOOT", 16, 0, 3), ChainLoader.IS_DIRECTORY);
        due("BOOT a directory and a bad text", with("bad").entry(2, 0, "BOOT", 16, 10, 3), ChainLoader.IS_DIRECTORY);
        due("the root broken", with("K=K").link(2, 60), ChainLoader.BROKEN);
        due("BOOT in a directory", with("K=K").entry(2, 0, "D", 16, 3, 0).chain(3).entry(3, 0, "BOOT", 0, 10, 3), ChainLoader.ABSENT);
        due("two of them", with("K=K").entry(2, 2, "BOOT", 16, 10, 3), LOADED);
    }

    /** "then BROKEN if its content is" */
    private static void contentBroken() {
        due("broken behind what is needed", with("K=K").link(16, 0), ChainLoader.BROKEN);
        due("a ring", with("K=K").link(16, 10), ChainLoader.BROKEN);
        due("from nowhere", with("K=K").entry(2, 0, "BOOT", Image.FILE, 0, 3), ChainLoader.BROKEN);
        due("32 bytes of one cluster", with("K=K\n#" + repeated('x', 27)).chain(10), LOADED);
        due("33 bytes of one cluster", with("K=K\n#" + repeated('x', 28)).chain(10), ChainLoader.BROKEN);
        due("broken and a bad text", with("bad").link(16, 0), ChainLoader.BROKEN);
        due("a bad text", with("bad"), ChainLoader.BAD_SETTINGS);
    }

    /** "BAD_SETTINGS if it has more than 200 bytes" */
    private static void moreThan200Bytes() {
        for (int length = 195; length <= 205; length++) {
            dueText("K=K\n#" + repeated('x', length - 5), length <= 200 ? LOADED : ChainLoader.BAD_SETTINGS);
            dueText(repeated('\n', length - 3) + "K=K", length <= 200 ? LOADED : ChainLoader.BAD_SETTINGS);
            dueText("K=K" + repeated('\n', length - 3), length <= 200 ? LOADED : ChainLoader.BAD_SETTINGS);
        }
        dueText("K=K\n#" + repeated('x', 219), ChainLoader.BAD_SETTINGS);
        dueText("K=" + repeated('K', 198), ChainLoader.BAD_PATH);
        dueText("K=" + repeated('K', 199), ChainLoader.BAD_SETTINGS);
    }

    private static void brokenComesBeforeTooLong() {
        int[] sizes = {225, 256, 1000, 65535};
        for (int size : sizes) {
            due("size " + size + " of 224 bytes", with("K=K").entry(2, 0, "BOOT", Image.FILE, 10, size), ChainLoader.BROKEN);
        }
        due("size 224 of 224 bytes", with("K=K").entry(2, 0, "BOOT", Image.FILE, 10, 224), ChainLoader.BAD_SETTINGS);
        due("size 201, broken", with("K=K").link(16, 0).entry(2, 0, "BOOT", Image.FILE, 10, 201), ChainLoader.BROKEN);
    }

    /** "Lines end before the byte 10" */
    private static void linesEndBeforeTheByte10() {
        for (int code = 0; code < 256; code++) {
            String text = "#" + (char) code + "K=K";
            due("a remark, the byte " + code + ", then K", with(text), code == 10 ? LOADED : ChainLoader.BAD_SETTINGS);
        }
        dueText("K=K\r\n", ChainLoader.BAD_PATH);
        dueText("K=K\n\r", ChainLoader.BAD_SETTINGS);
        dueText("K=K\nZ=", LOADED);
    }

    /** "and with the file": what lies behind it in the cluster says nothing. */
    private static void linesEndWithTheFile() {
        Image image = with("K=KZ\nbad");
        for (int size = 0; size <= 8; size++) {
            int[] want = {ChainLoader.BAD_SETTINGS, ChainLoader.BAD_SETTINGS, ChainLoader.BAD_PATH, LOADED, ChainLoader.ABSENT,
                ChainLoader.ABSENT, ChainLoader.BAD_SETTINGS, ChainLoader.BAD_SETTINGS, ChainLoader.BAD_SETTINGS};
            due("the first " + size + " bytes", image.entry(2, 0, "BOOT", Image.FILE, 10, size), want[size]);
        }
    }

    /** "A line is passed over if it is empty" */
    private static void emptyLines() {
        dueText("\nK=K", LOADED);
        dueText("K=K\n", LOADED);
        dueText("K=K\n\n\n", LOADED);
        dueText("\n\n\nK=K\n\n\n", LOADED);
        dueText("K=K\n ", ChainLoader.BAD_SETTINGS);
        dueText("\n", ChainLoader.BAD_SETTINGS);
    }

    /** "or begins with #" */
    private static void linesThatBeginWithAHash() {
        String[] good = {"#\nK=K", "K=K\n#", "#=\nK=K", "#x\nK=K", "##\nK=K", "#K=Z\nK=K", "# = #\nK=K"};
        for (String text : good) {
            dueText(text, LOADED);
        }
        dueText("#K=K", ChainLoader.BAD_SETTINGS);
        dueText("K=K\n #", ChainLoader.BAD_SETTINGS);
        dueText("K=#", ChainLoader.BAD_PATH);
    }

    /** "Any other one must have = as its second byte, else BAD_SETTINGS." */
    private static void secondByteIsAnEqualsSign() {
        for (int code = 0; code < 256; code++) {
            due("a line Z, " + code, with("K=K\nZ" + (char) code), code == '=' ? LOADED : ChainLoader.BAD_SETTINGS);
            due("a line K, " + code, with("K" + (char) code + "K"), code == '=' ? LOADED : ChainLoader.BAD_SETTINGS);
        }
        dueText("K=K\nZ", ChainLoader.BAD_SETTINGS);
        dueText("K=K\n=", ChainLoader.BAD_SETTINGS);
        dueText("K=K\nZZ=", ChainLoader.BAD_SETTINGS);
        dueText("Z\nK=K", ChainLoader.BAD_SETTINGS);
        dueText("K\n=K", ChainLoader.BAD_SETTINGS);
        for (int length = 196; length <= 200; length++) {
            dueText("K=K" + repeated('\n', length - 4) + "Z", ChainLoader.BAD_SETTINGS);
            dueText("K=K" + repeated('\n', length - 5) + "Z=", LOADED);
        }
    }

    /** "of K .., of F .., of A ..; other lines are passed over" */
    private static void lettersOfLines() {
        for (int code = 0; code < 256; code++) {
            if (code == 10) {
                continue;
            }
            boolean another = code == 'K';
            due("a line of " + code + " behind K", with("K=K\n" + (char) code + "=Z"), another ? ChainLoader.ABSENT : LOADED);
            boolean other = code == 'F';
            due("a line of " + code + " with a kernel", with("K=Z\n" + (char) code + "=K"),
                other ? OTHER : another ? LOADED : ChainLoader.ABSENT);
            boolean none = code != 'K';
            due("a line of " + code + " alone", with((char) code + "=K"), none ? ChainLoader.BAD_SETTINGS : LOADED);
        }
    }

    /** "What is behind that is the VALUE": all of it. */
    private static void valuesAreAllBehind() {
        dueText("K==K", ChainLoader.BAD_PATH);
        dueText("K= K", ChainLoader.BAD_PATH);
        dueText("K=K ", ChainLoader.BAD_PATH);
        dueText("K=", ChainLoader.BAD_PATH);
        dueText("K=\nF=K", OTHER);
        dueText("K=K#", ChainLoader.BAD_PATH);
    }

    /** "(BAD_SETTINGS if a line A has more than 24 of them)" */
    private static void argumentsUpTo24() {
        for (int count = 22; count <= 28; count++) {
            int want = count <= 24 ? LOADED : ChainLoader.BAD_SETTINGS;
            dueText("K=K\nA=" + repeated('x', count), want);
            dueText("A=" + repeated('x', count) + "\nK=K", want);
            dueText("A=" + repeated('x', count) + "\nA=x\nK=K", want);
            dueText("A=x\nA=" + repeated('x', count) + "\nK=K", want);
            dueText("B=" + repeated('x', count) + "\nK=K", LOADED);
            dueText("F=" + repeated('x', count) + "\nK=K", LOADED);
            dueText("a=" + repeated('x', count) + "\nK=K", LOADED);
            dueText("#A=" + repeated('x', count) + "\nK=K", LOADED);
        }
        dueText("A=" + repeated('x', 25), ChainLoader.BAD_SETTINGS);
    }

    /** "The last line of a letter counts." */
    private static void lastLineOfALetterCounts() {
        dueText("K=Z\nK=K", LOADED);
        dueText("K=K\nK=Z", ChainLoader.ABSENT);
        dueText("K=K\nK=", ChainLoader.BAD_PATH);
        dueText("K=\nK=K", LOADED);
        dueText("K=Z\nF=Z\nF=K", OTHER);
        dueText("K=Z\nF=K\nF=Z", ChainLoader.ABSENT);
        dueText("K=Z\nF=K\nF=", ChainLoader.BAD_PATH);
        dueText("F=K\nK=K\nF=Z\nK=z\nK=Z\nF=K", OTHER);
        arguments("A=ab\nK=K\nA=c", "c");
        arguments("A=c\nK=K\nA=ab", "ab");
        arguments("A=ab\nK=K\nA=", "");
        arguments("A=\nK=K\nA=ab", "ab");
    }

    private static void arguments(String text, String want) {
        ChainLoader x = with(text).loader();
        Due.due("boot()", x.boot(), LOADED);
        String call = " after settings " + text.replace('\n', '|');
        Due.due("the int at 8" + call, Image.intAt(x, 8), want.isEmpty() ? 0 : 32);
        for (int k = 0; k < 3; k++) {
            Due.due("memory(" + (32 + k) + ")" + call, x.memory(32 + k), k < want.length() ? want.charAt(k) : 0);
        }
    }

    /** "BAD_SETTINGS if there is no K." */
    private static void noK() {
        String[] none = {"", "\n", "#", "#K=K", "F=K", "A=K", "k=K", "F=K\nA=x\nZ=\n", "\n\n\n"};
        for (String text : none) {
            dueText(text, ChainLoader.BAD_SETTINGS);
        }
        dueText("F=K\nK=K", LOADED);
    }

    /** Settings that are bad anywhere load nothing, even with a K and an F that could be loaded. */
    private static void settingsComeBeforeLoading() {
        String[] bad = {"K=K\nF=K\nbad", "bad\nK=K\nF=K", "K=K\nbad\nF=K", "K=K\nA=" + repeated('x', 25)};
        for (String text : bad) {
            ChainLoader x = with(text).loader();
            Due.due("boot(), " + text.replace('\n', '|'), x.boot(), ChainLoader.BAD_SETTINGS);
            Due.due("entry()", x.entry(), ChainLoader.BAD);
            Due.due("memory(0)", x.memory(0), 0);
        }
    }

    /** Writes another text over that of BOOT, which had one at least as long. */
    private static void rewrite(ChainLoader x, String text) {
        for (int k = 0; k < text.length(); k++) {
            x.poke(new Image().place(10) + k, text.charAt(k), 1);
        }
        x.poke(new Image().entryPlace(2, 0) + 6, text.length(), 2);
    }

    /** What a text of before said, or what of it still lies behind the file, counts no more. */
    private static void earlierSettingsSayNothing() {
        ChainLoader x = with("K=Z\nF=K\nA=abc").loader();
        Due.due("boot() with F", x.boot(), OTHER);
        rewrite(x, "K=Z");
        Due.due("boot() without F", x.boot(), ChainLoader.ABSENT);
        rewrite(x, "K=K");
        Due.due("boot() without A", x.boot(), LOADED);
        Due.due("the int at 8", Image.intAt(x, 8), 0);
        Due.due("memory(32)", x.memory(32), 0);
        rewrite(x, "K");
        Due.due("boot() of one byte", x.boot(), ChainLoader.BAD_SETTINGS);
        rewrite(x, "");
        Due.due("boot() of no byte", x.boot(), ChainLoader.BAD_SETTINGS);
        rewrite(x, "F=K");
        Due.due("boot() without K", x.boot(), ChainLoader.BAD_SETTINGS);
        rewrite(x, "K=K");
        Due.due("boot() with K again", x.boot(), LOADED);
    }
}

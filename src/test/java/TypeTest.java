/** Promise 5. */
public final class TypeTest {
    public static void main(String[] args) {
        codes();
        length();
        order();
        Due.end();
    }

    private static void codes() {
        int[] edges = {0, 10, 31, 32, 47, 126, 127, 128, 255, 256, 32 + 256, 65535};
        for (int code : edges) {
            ChainLoader x = new ChainLoader();
            boolean good = code >= 32 && code <= 126;
            Due.due("type(" + code + ")", x.type((char) code), good);
            Due.due("scrap() after type(" + code + ")", x.scrap(), good ? 1 : 0);
        }
        for (int code = 0; code < 300; code++) {
            Due.due("type(" + code + ")", new ChainLoader().type((char) code), code >= 32 && code <= 126);
        }
    }

    private static void length() {
        ChainLoader x = new ChainLoader();
        for (int k = 1; k <= 20; k++) {
            Due.due("type, the " + k + ".", x.type('A'), true);
        }
        Due.due("type, the 21.", x.type('A'), false);
        Due.due("type, the 22.", x.type('~'), false);
        Due.due("scrap()", x.scrap(), 20);
        Due.due("type after scrap", x.type('A'), true);
    }

    private static void order() {
        ChainLoader x = new Image().entry(2, 0, "AB", Image.FILE, 0, 0).loader("A");
        Due.due("size() of A", x.size(), ChainLoader.ABSENT);
        x.type('B');
        Due.due("size() of AB", x.size(), 0);
        x.type((char) 10);
        Due.due("size() after a refused character", x.size(), 0);
        x.type(' ');
        Due.due("size() of 'AB '", x.size(), ChainLoader.BAD_PATH);
    }
}

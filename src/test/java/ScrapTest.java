/** Promise 6. */
public final class ScrapTest {
    public static void main(String[] args) {
        ChainLoader x = new Image().entry(2, 0, "B", Image.FILE, 0, 0).loader();
        Due.due("scrap() of nothing", x.scrap(), 0);
        for (int n = 0; n <= 20; n++) {
            for (int k = 0; k < n; k++) {
                x.type('A');
            }
            Due.due("scrap() of " + n, x.scrap(), n);
            Due.due("scrap() again", x.scrap(), 0);
        }
        x.type('A');
        x.type('A');
        x.scrap();
        Due.due("size() of no text", x.size(), ChainLoader.BAD_PATH);
        x.type('B');
        Due.due("size() of a new text", x.size(), 0);
        Due.due("scrap() leaves the disk", x.scrap(), 1);
        Due.due("volume() after scrap()", x.volume(), 58);
        Due.end();
    }
}

/** Promise 13. */
public final class EntryTest {
    public static void main(String[] args) {
        int[] entries = {64, 65, 70, 103};
        for (int entry : entries) {
            ChainLoader x = with("K=K", entry).loader();
            Due.due("entry() at first", x.entry(), ChainLoader.BAD);
            Due.due("boot()", x.boot(), 0);
            Due.due("entry()", x.entry(), entry);
        }
        other();
        stays();
        Due.end();
    }

    private static Image with(String text, int entry) {
        return new Image().text(2, 0, "BOOT", text, 10, 11, 12)
            .file(2, 1, "K", Image.kernel(40, 0, 0, 64, entry), 20, 21)
            .file(2, 2, "L", Image.kernel(50, 8, 0, 974, 1023), 30, 31);
    }

    private static void other() {
        ChainLoader x = with("K=X\nF=L", 64).loader();
        Due.due("boot() of the other one", x.boot(), 1);
        Due.due("entry() of the other one", x.entry(), 1023);
        x.poke(new Image().place(10) + 2, 'K', 1);
        Due.due("boot() of the first one", x.boot(), 0);
        Due.due("entry() of the first one", x.entry(), 64);
    }

    private static void stays() {
        ChainLoader x = with("K=K", 104).loader();
        Due.due("boot() without room", x.boot(), ChainLoader.NO_ROOM);
        Due.due("entry() when nothing was loaded", x.entry(), ChainLoader.BAD);
        x.poke(new Image().place(20) + 16, 99, 1);
        Due.due("boot()", x.boot(), 0);
        Due.due("entry()", x.entry(), 99);
        x.poke(new Image().place(20) + 16, 104, 1);
        Due.due("boot() without room", x.boot(), ChainLoader.NO_ROOM);
        Due.due("entry() stays", x.entry(), 99);
        x.poke(30, 0, 1);
        Due.due("boot() of no disk", x.boot(), ChainLoader.NO_DISK);
        Due.due("entry() stays", x.entry(), 99);
    }
}

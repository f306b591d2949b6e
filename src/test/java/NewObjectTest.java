/** Promise 1. */
public final class NewObjectTest {
    public static void main(String[] args) {
        for (int from = 0; from < 2048; from += 500) {
            ChainLoader x = new ChainLoader();
            for (int at = from; at < from + 500 && at < 2048; at++) {
                Due.due("peek(" + at + ")", x.peek(at), 0);
            }
        }
        for (int from = 0; from < 1024; from += 500) {
            ChainLoader x = new ChainLoader();
            for (int at = from; at < from + 500 && at < 1024; at++) {
                Due.due("memory(" + at + ")", x.memory(at), 0);
            }
        }
        Due.due("scrap()", new ChainLoader().scrap(), 0);
        Due.due("entry()", new ChainLoader().entry(), ChainLoader.BAD);
        Due.due("volume()", new ChainLoader().volume(), ChainLoader.NO_DISK);
        objectsAreApart();
        Due.end();
    }

    private static void objectsAreApart() {
        ChainLoader one = new ChainLoader();
        ChainLoader other = new ChainLoader();
        one.poke(5, 77, 1);
        one.type('A');
        Due.due("peek(5) of the other", other.peek(5), 0);
        Due.due("scrap() of the other", other.scrap(), 0);
        Due.due("peek(5) of a later one", new ChainLoader().peek(5), 0);
    }
}

/** The edges of promises 1, 2, 3 and 12: the disk, memory, and places that are not there. Each method tests one sentence. */
public final class DiskEdgesTest {
    private static final long EIGHT = 0xF8E7D6C5B4A39281L;

    public static void main(String[] args) {
        diskHas2048Bytes();
        bytesAre0To255();
        memoryHas1024Bytes();
        nothingWasLoaded();
        pathTextIsEmpty();
        nLowestBytesLowestFirst();
        countIs1To8();
        bytesLieOnTheDisk();
        placesThatWrapDoNotLieOnTheDisk();
        refusedPokeChangesNothing();
        lastOf512CallsIsAnswered();
        Due.end();
    }

    /** "THE DISK has 2048 bytes (0 .. 255), at first all 0", "A byte of the disk; BAD if there is none." */
    private static void diskHas2048Bytes() {
        ChainLoader x = new ChainLoader();
        Due.due("peek(-1)", x.peek(-1), ChainLoader.BAD);
        Due.due("peek(0)", x.peek(0), 0);
        Due.due("peek(2047)", x.peek(2047), 0);
        Due.due("peek(2048)", x.peek(2048), ChainLoader.BAD);
        Due.due("peek of the lowest int", x.peek(Integer.MIN_VALUE), ChainLoader.BAD);
        Due.due("peek of the highest int", x.peek(Integer.MAX_VALUE), ChainLoader.BAD);
    }

    /** "bytes (0 .. 255)" */
    private static void bytesAre0To255() {
        for (int value = 0; value < 256; value++) {
            ChainLoader x = new ChainLoader();
            x.poke(2047, value, 1);
            Due.due("peek(2047) of " + value, x.peek(2047), value);
        }
        long[] wide = {256, -1, -256, 0x7fffffffffffff80L, Long.MIN_VALUE};
        for (long bytes : wide) {
            ChainLoader x = new ChainLoader();
            Due.due("poke(9, " + bytes + ", 1)", x.poke(9, bytes, 1), true);
            Due.due("peek(9) of " + bytes, x.peek(9), bytes & 255);
            Due.due("peek(10) of " + bytes, x.peek(10), 0);
        }
    }

    /** "MEMORY has 1024 bytes, at first all 0", "A byte of memory; BAD if there is none." */
    private static void memoryHas1024Bytes() {
        ChainLoader x = new ChainLoader();
        Due.due("memory(-1)", x.memory(-1), ChainLoader.BAD);
        Due.due("memory(0)", x.memory(0), 0);
        Due.due("memory(1023)", x.memory(1023), 0);
        Due.due("memory(1024)", x.memory(1024), ChainLoader.BAD);
        Due.due("memory of the lowest int", x.memory(Integer.MIN_VALUE), ChainLoader.BAD);
        Due.due("memory of the highest int", x.memory(Integer.MAX_VALUE), ChainLoader.BAD);
    }

    /** "nothing was loaded" */
    private static void nothingWasLoaded() {
        Due.due("entry()", new ChainLoader().entry(), ChainLoader.BAD);
    }

    /** "the path text is empty" */
    private static void pathTextIsEmpty() {
        Due.due("scrap()", new ChainLoader().scrap(), 0);
        ChainLoader x = new Image().entry(2, 0, "A", Image.FILE, 0, 0).loader();
        Due.due("list(0), of the root", x.list(0), 'A' | 0x20202000L);
        Due.due("size()", x.size(), ChainLoader.BAD_PATH);
    }

    /** "The n lowest bytes of bytes, the lowest first, go onto the disk from a place on." */
    private static void nLowestBytesLowestFirst() {
        for (int n = 1; n <= 8; n++) {
            ChainLoader x = new ChainLoader();
            x.poke(100, -1, 8);
            x.poke(108, -1, 8);
            x.poke(92, -1, 8);
            x.poke(100, EIGHT, n);
            Due.due("peek(99), n " + n, x.peek(99), 255);
            for (int k = 0; k < n; k++) {
                Due.due("peek(" + (100 + k) + "), n " + n, x.peek(100 + k), EIGHT >>> 8 * k & 255);
            }
            Due.due("peek(" + (100 + n) + "), n " + n, x.peek(100 + n), 255);
        }
    }

    /** "false, changing nothing, if n is not 1 .. 8" */
    private static void countIs1To8() {
        ChainLoader x = new ChainLoader();
        Due.due("n 0", x.poke(500, EIGHT, 0), false);
        Due.due("peek(500) after n 0", x.peek(500), 0);
        Due.due("n 9", x.poke(500, EIGHT, 9), false);
        Due.due("peek(500) after n 9", x.peek(500), 0);
        Due.due("n -1", x.poke(500, EIGHT, -1), false);
        Due.due("n of the lowest int", x.poke(500, EIGHT, Integer.MIN_VALUE), false);
        Due.due("n of the highest int", x.poke(500, EIGHT, Integer.MAX_VALUE), false);
        Due.due("n 257", x.poke(500, EIGHT, 257), false);
        Due.due("peek(500) after all of these", x.peek(500), 0);
        Due.due("n 1", x.poke(500, EIGHT, 1), true);
        Due.due("peek(500) after n 1", x.peek(500), 0x81);
        Due.due("n 8", x.poke(500, EIGHT, 8), true);
        Due.due("peek(507) after n 8", x.peek(507), 0xF8);
        Due.due("peek(508) after n 8", x.peek(508), 0);
    }

    /** "or they do not lie on the disk" */
    private static void bytesLieOnTheDisk() {
        for (int n = 1; n <= 8; n++) {
            ChainLoader x = new ChainLoader();
            Due.due("from -1, n " + n, x.poke(-1, EIGHT, n), false);
            Due.due("from -n, n " + n, x.poke(-n, EIGHT, n), false);
            Due.due("from 0, n " + n, x.poke(0, EIGHT, n), true);
            Due.due("peek(0), n " + n, x.peek(0), 0x81);
            Due.due("up to 2048, n " + n, x.poke(2049 - n, EIGHT, n), false);
            Due.due("from 2048, n " + n, x.poke(2048, EIGHT, n), false);
            Due.due("up to 2047, n " + n, x.poke(2048 - n, EIGHT, n), true);
            Due.due("peek(2047), n " + n, x.peek(2047), EIGHT >>> 8 * (n - 1) & 255);
        }
    }

    private static void placesThatWrapDoNotLieOnTheDisk() {
        for (int n = 1; n <= 8; n++) {
            ChainLoader x = new ChainLoader();
            for (int k = 0; k <= 8; k++) {
                Due.due("from the highest int less " + k + ", n " + n, x.poke(Integer.MAX_VALUE - k, EIGHT, n), false);
                Due.due("from the lowest int plus " + k + ", n " + n, x.poke(Integer.MIN_VALUE + k, EIGHT, n), false);
            }
            Due.due("peek(0)", x.peek(0), 0);
        }
    }

    /** "changing nothing": also not the bytes of it that would lie on the disk. */
    private static void refusedPokeChangesNothing() {
        for (int part = 1; part <= 7; part++) {
            ChainLoader x = new ChainLoader();
            Due.due("from -" + part, x.poke(-part, EIGHT, 8), false);
            Due.due("from 2040 + " + part, x.poke(2040 + part, EIGHT, 8), false);
            for (int k = 0; k < 8; k++) {
                Due.due("peek(" + k + ")", x.peek(k), 0);
                Due.due("peek(" + (2040 + k) + ")", x.peek(2040 + k), 0);
            }
        }
    }

    /** "An object is used for at most 512 calls after it has been made": the 512th is still answered as promised. */
    private static void lastOf512CallsIsAnswered() {
        ChainLoader x = new ChainLoader();
        for (int call = 1; call <= 510; call++) {
            x.poke(call, call, 1);
        }
        Due.due("the 511th call", x.poke(511, 7, 1), true);
        Due.due("the 512th call", x.peek(511), 7);
    }
}

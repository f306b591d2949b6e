/** The edges of promise 4: "THE PARTITION". Each method tests one sentence. */
public final class PartitionEdgesTest {
    public static void main(String[] args) {
        sectorZeroIsSigned();
        activeIs128();
        typeIs12();
        firstSectorIsAtLeast1();
        numberIsAtLeast1();
        notBeyondSector63();
        sumsOfBytesDoNotWrap();
        recordsAreAt6And14And22();
        firstUsableActiveThenFirstUsable();
        firstThatHolds();
        Due.end();
    }

    private static void due(String what, Image image, int want) {
        Due.due("volume(), " + what, image.loader().volume(), want);
    }

    /** A disk whose one record is such, and no volume at all: BAD_VOLUME if the record is usable. */
    private static void dueUsable(int type, int first, int sectors, boolean usable) {
        Image image = new Image().volume(0, 0).record(0, 128, type, first, sectors);
        due("type " + type + " from " + first + ", " + sectors + " sectors", image,
            usable ? ChainLoader.BAD_VOLUME : ChainLoader.NO_PARTITION);
    }

    /** "Sector 0 must have the bytes 85, 170 at 30 and 31, else NO_DISK." */
    private static void sectorZeroIsSigned() {
        due("85, 170", new Image().put(30, 85, 170), 58);
        int[] notFirst = {0, 84, 86, 170, 213};
        for (int value : notFirst) {
            due(value + ", 170", new Image().put(30, value), ChainLoader.NO_DISK);
        }
        int[] notSecond = {0, 169, 171, 85, 42};
        for (int value : notSecond) {
            due("85, " + value, new Image().put(31, value), ChainLoader.NO_DISK);
        }
        due("at 29 and 30", new Image().put(29, 85, 170, 0), ChainLoader.NO_DISK);
    }

    /** "a byte that is 128 for an active one" */
    private static void activeIs128() {
        for (int value = 0; value < 256; value++) {
            due("record 1 with " + value, Image.threeVolumes().put(6, 0).put(14, value).put(22, 0), value == 128 ? 2 : 1);
        }
    }

    /** "USABLE if its type is 12" */
    private static void typeIs12() {
        for (int type = 0; type < 256; type++) {
            dueUsable(type, 1, 63, type == 12);
        }
    }

    /** "its first sector .. at least 1" */
    private static void firstSectorIsAtLeast1() {
        dueUsable(12, 0, 1, false);
        dueUsable(12, 0, 63, false);
        dueUsable(12, 0, 64, false);
        dueUsable(12, 1, 1, true);
        dueUsable(12, 1, 63, true);
    }

    /** "and its number .. at least 1" */
    private static void numberIsAtLeast1() {
        int[] firsts = {1, 2, 63};
        for (int first : firsts) {
            dueUsable(12, first, 0, false);
            dueUsable(12, first, 1, true);
        }
        dueUsable(12, 64, 0, false);
    }

    /** "and it does not go beyond sector 63" */
    private static void notBeyondSector63() {
        for (int first = 1; first <= 63; first++) {
            dueUsable(12, first, 64 - first, true);
            dueUsable(12, first, 65 - first, false);
        }
        dueUsable(12, 64, 1, false);
    }

    private static void sumsOfBytesDoNotWrap() {
        for (int first = 1; first < 256; first++) {
            dueUsable(12, first, 255, false);
            dueUsable(12, first, 256 - first, false);
        }
        for (int sectors = 1; sectors < 256; sectors++) {
            dueUsable(12, 255, sectors, false);
            dueUsable(12, 128, sectors, false);
        }
    }

    /** "three RECORDS 0 .. 2, at 6, 14 and 22": no other place tells of a partition. */
    private static void recordsAreAt6And14And22() {
        for (int at = 0; at <= 26; at++) {
            Image image = new Image().put(6, 0, 0, 0, 0).put(at, 128, 12, 1, 63);
            due("a record at " + at, image, at == 6 || at == 14 || at == 22 ? 58 : ChainLoader.NO_PARTITION);
        }
    }

    /** "The partition is the first usable active record; if there is none, the first usable one; if there is none, .." */
    private static void firstUsableActiveThenFirstUsable() {
        for (int usable = 0; usable < 8; usable++) {
            for (int active = 0; active < 8; active++) {
                Image image = Image.threeVolumes();
                for (int k = 0; k < 3; k++) {
                    image.put(6 + 8 * k, (active >> k & 1) * 128, (usable >> k & 1) * 12);
                }
                int both = usable & active;
                int among = both != 0 ? both : usable;
                int want = among == 0 ? ChainLoader.NO_PARTITION : Integer.numberOfTrailingZeros(among) + 1;
                due("usable " + usable + ", active " + active, image, want);
            }
        }
    }

    /** "NO_DISK, NO_PARTITION or BAD_VOLUME, the first that holds" */
    private static void firstThatHolds() {
        Image image = new Image().put(31, 0).put(7, 0).volume(0, 0);
        due("all three", image, ChainLoader.NO_DISK);
        due("the last two", image.put(31, 170), ChainLoader.NO_PARTITION);
        due("the last", image.put(7, 12), ChainLoader.BAD_VOLUME);
        due("none", image.volume(0, 235), 58);
    }
}

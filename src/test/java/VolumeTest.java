/** Promise 4. */
public final class VolumeTest {
    public static void main(String[] args) {
        signatures();
        records();
        choice();
        fields();
        room();
        roots();
        order();
        Due.end();
    }

    private static void due(String what, Image image, int want) {
        Due.due("volume(), " + what, image.loader().volume(), want);
    }

    private static void signatures() {
        due("good", new Image(), 58);
        due("no 85 in sector 0", new Image().put(30, 84), ChainLoader.NO_DISK);
        due("no 170 in sector 0", new Image().put(31, 0), ChainLoader.NO_DISK);
        due("turned round", new Image().put(30, 170, 85), ChainLoader.NO_DISK);
        due("no 85 in the volume", new Image().volume(30, 0), ChainLoader.BAD_VOLUME);
        due("no 170 in the volume", new Image().volume(31, 171), ChainLoader.BAD_VOLUME);
        due("no 235", new Image().volume(0, 234), ChainLoader.BAD_VOLUME);
    }

    private static void records() {
        due("type 11", new Image().record(0, 128, 11, 1, 63), ChainLoader.NO_PARTITION);
        due("type 13", new Image().record(0, 128, 13, 1, 63), ChainLoader.NO_PARTITION);
        due("first sector 0", new Image().record(0, 128, 12, 0, 63), ChainLoader.NO_PARTITION);
        due("no sectors", new Image().record(0, 128, 12, 1, 0), ChainLoader.NO_PARTITION);
        due("up to 64", new Image().record(0, 128, 12, 1, 64), ChainLoader.NO_PARTITION);
        due("from 63, two", new Image().record(0, 128, 12, 63, 2), ChainLoader.NO_PARTITION);
        due("from 64", new Image().record(0, 128, 12, 64, 1), ChainLoader.NO_PARTITION);
        due("255, 255", new Image().record(0, 128, 12, 255, 255), ChainLoader.NO_PARTITION);
        due("one sector 63", new Image().record(0, 128, 12, 63, 1), ChainLoader.BAD_VOLUME);
        due("not active", new Image().record(0, 0, 12, 1, 63), 58);
        due("fewer sectors", new Image().record(0, 128, 12, 1, 20), 15);
    }

    private static void choice() {
        due("all active", Image.threeVolumes(), 1);
        due("1 and 2 active", Image.threeVolumes().put(6, 0), 2);
        due("2 active", Image.threeVolumes().put(6, 0).put(14, 0), 3);
        due("none active", Image.threeVolumes().put(6, 0).put(14, 0).put(22, 0), 1);
        due("127, 129 and 255 are not active", Image.threeVolumes().put(6, 127).put(14, 129).put(22, 255), 1);
        due("0 active, not usable", Image.threeVolumes().put(7, 11).put(14, 0), 3);
        due("0 active, not usable, none else active", Image.threeVolumes().put(7, 11).put(14, 0).put(22, 0), 2);
        due("only 2 usable", Image.threeVolumes().put(7, 11).put(15, 0).put(22, 0), 3);
        due("no record usable", Image.threeVolumes().put(7, 11).put(15, 0).put(23, 1), ChainLoader.NO_PARTITION);
        due("the first one is bad, the next is not asked", Image.threeVolumes().put(32, 0), ChainLoader.BAD_VOLUME);
    }

    private static void fields() {
        int[] sizes = {1, 2, 4};
        int[] counts = {58, 29, 14};
        for (int k = 0; k < 3; k++) {
            due("cluster of " + sizes[k], new Image().volume(1, sizes[k]), counts[k]);
        }
        int[] wrong = {0, 3, 5, 8, 129, 255};
        for (int sectors : wrong) {
            due("cluster of " + sectors, new Image().volume(1, sectors), ChainLoader.BAD_VOLUME);
        }
        due("none before the tables", new Image().volume(2, 0), ChainLoader.BAD_VOLUME);
        due("two before the tables", new Image().volume(2, 2), 57);
        due("no table", new Image().volume(3, 0), ChainLoader.BAD_VOLUME);
        due("two tables", new Image().volume(3, 2), 54);
        due("three tables", new Image().volume(3, 3), ChainLoader.BAD_VOLUME);
        due("a table of none", new Image().volume(4, 0), ChainLoader.BAD_VOLUME);
        due("a table of 5", new Image().volume(4, 5), 57);
        due("a table of 255", new Image().volume(4, 255), ChainLoader.BAD_VOLUME);
    }

    private static void room() {
        due("62 sectors of 63 before and in tables", new Image().volume(4, 61), 1);
        due("63 of 63", new Image().volume(4, 62), ChainLoader.BAD_VOLUME);
        due("64 of 63", new Image().volume(4, 63), ChainLoader.BAD_VOLUME);
        due("255 before", new Image().volume(2, 255), ChainLoader.BAD_VOLUME);
        due("no whole cluster", new Image().record(0, 128, 12, 1, 8).volume(1, 4), ChainLoader.BAD_VOLUME);
        due("one whole cluster", new Image().record(0, 128, 12, 1, 9).volume(1, 4), 1);
        due("16 words for 14", new Image(1, 16, 1, 1, 1, 1), 14);
        due("16 words for 15", new Image(1, 17, 1, 1, 1, 1), ChainLoader.BAD_VOLUME);
        due("48 words for 46", new Image(1, 50, 1, 1, 1, 3), 46);
        due("48 words for 47", new Image(1, 51, 1, 1, 1, 3), ChainLoader.BAD_VOLUME);
        due("48 words for 47, two tables", new Image(1, 54, 1, 1, 2, 3), ChainLoader.BAD_VOLUME);
    }

    private static void roots() {
        due("root 0", new Image().volume(5, 0), ChainLoader.BAD_VOLUME);
        due("root 1", new Image().volume(5, 1), ChainLoader.BAD_VOLUME);
        due("root 59", new Image().volume(5, 59), 58);
        due("root 60", new Image().volume(5, 60), ChainLoader.BAD_VOLUME);
        due("root 255", new Image().volume(5, 255), ChainLoader.BAD_VOLUME);
    }

    private static void order() {
        due("all wrong", new Image().put(30, 0).record(0, 0, 0, 0, 0).volume(0, 0), ChainLoader.NO_DISK);
        due("all but the disk wrong", new Image().record(0, 0, 0, 0, 0).volume(0, 0), ChainLoader.NO_PARTITION);
        ChainLoader x = new Image().loader();
        Due.due("volume() at first", x.volume(), 58);
        x.poke(30, 0, 1);
        Due.due("volume() with another disk", x.volume(), ChainLoader.NO_DISK);
        x.poke(30, 85, 1);
        Due.due("volume() with the first disk", x.volume(), 58);
    }
}

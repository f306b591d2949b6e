import java.util.ArrayList;
import java.util.List;
import java.util.Map;
import java.util.Random;
import java.util.TreeMap;

/** All promises: on made-up disks, mostly good ones, the class answers what the model answers. */
public final class ModelTest {
    private static final int RUNS = 8000;
    private static final int CALLS = 512;
    private static final String[] NAMES = {"A", "B", "CD", "K", "BOOT", "Z9"};
    private static final String[] PATHS = {"A", "B", "CD", "K", "BOOT", "A/K", "B/K", "CD/A", "A/B/K", "A/B/CD/K", "K/A", "", "a"};

    private final Random random;
    private final ChainLoader x = new ChainLoader();
    private final Model model = new Model();
    private final Map<String, Integer> met;
    private final StringBuilder calls = new StringBuilder();
    private Image image;
    private int tables;
    private int clusters;
    private int clusterBytes;
    private List<Integer> free;
    private int left = CALLS;
    private boolean wrong = false;

    private ModelTest(int seed, Map<String, Integer> met) {
        random = new Random(seed);
        this.met = met;
    }

    public static void main(String[] args) {
        Map<String, Integer> met = new TreeMap<>();
        int wrongRuns = 0;
        for (int seed = 0; seed < RUNS && wrongRuns < 5; seed++) {
            ModelTest test = new ModelTest(seed, met);
            test.run();
            if (test.wrong) {
                wrongRuns++;
                System.out.println("run " + seed + ":" + test.calls);
            }
        }
        System.out.println("answers met: " + met);
        Due.due("wrong runs", wrongRuns, 0);
        dueKinds(met);
        Due.end();
    }

    /** A made-up disk that never leads to an answer would test nothing of it. */
    private static void dueKinds(Map<String, Integer> met) {
        for (int answer = -12; answer <= 1; answer++) {
            if (answer != ChainLoader.BAD) {
                Due.due("boot answered " + answer, met.containsKey("boot " + answer), true);
            }
        }
        Due.due("survey answered DEEP", met.containsKey("survey " + ChainLoader.DEEP), true);
        Due.due("survey answered MANY", met.containsKey("survey " + ChainLoader.MANY), true);
    }

    private int below(int n) {
        return random.nextInt(n);
    }

    private boolean once(int n) {
        return random.nextInt(n) == 0;
    }

    private void run() {
        build();
        pokeAll();
        while (left > 20 && !wrong) {
            boolean disturbed = once(4);
            int at = disturbed ? pokeSome() : 0;
            for (int k = below(4); k >= 0 && left > 20; k--) {
                ask();
            }
            if (disturbed && !once(8)) {
                pokeBack(at);
            }
        }
    }

    private void build() {
        int first = 1 + below(4);
        int sectors = 64 - first - below(8);
        int size = 1 << below(3);
        tables = 1 + below(2);
        int tableSectors = size == 1 ? 4 : size == 2 ? 2 + below(2) : 1 + below(2);
        int before = 1 + below(2);
        image = new Image(first, sectors, size, before, tables, tableSectors);
        clusterBytes = 32 * size;
        clusters = (sectors - before - tables * tableSectors) / size;
        if (once(2)) {
            image.record(2, once(2) ? 128 : 0, 12, first, sectors);
            image.record(0, once(2) ? 128 : 0, 12 - below(2), first, sectors);
        }
        free = new ArrayList<>();
        for (int k = 3; k <= clusters + 1; k++) {
            free.add(k);
        }
        if (once(8)) {
            wideRoot();
        } else {
            directory(once(2) ? new int[] {2} : new int[] {2, free.remove(0)}, 0);
        }
        for (int k = below(5) - 2; k > 0; k--) {
            image.put(below(2048), below(256));
        }
    }

    /** A root of files, and of directories that all are one and the same, with about 250 entries in all. */
    private void wideRoot() {
        int slots = clusterBytes / 8;
        int leaf = free.remove(0);
        image.link(leaf, Image.END);
        for (int slot = 0; slot < slots; slot++) {
            image.entry(leaf, slot, "F", Image.FILE, 0, 0);
        }
        int directories = (244 - below(30)) / (slots + 1);
        int files = 250 - directories * (slots + 1) + below(5) - 2;
        int entries = directories + files;
        int[] chain = new int[(entries + slots - 1) / slots];
        chain[0] = 2;
        for (int k = 1; k < chain.length; k++) {
            chain[k] = free.remove(0);
        }
        image.chain(chain);
        for (int k = 0; k < entries; k++) {
            boolean directory = k < directories;
            image.entry(chain[k / slots], k % slots, "E", directory ? Image.DIRECTORY : Image.FILE, leaf, 0);
        }
        if (once(2)) {
            image.entry(chain[(entries - 1) / slots], (entries - 1) % slots, "E", Image.DIRECTORY, 0, 0);
        }
    }

    private int[] take(int wanted) {
        int count = Math.min(wanted, free.size());
        int[] taken = new int[count];
        for (int k = 0; k < count; k++) {
            taken[k] = free.remove(once(2) ? 0 : below(free.size()));
        }
        return taken;
    }

    private void linkAll(int[] chain) {
        image.chain(chain);
        for (int k = 0; k < chain.length && tables == 2 && !once(4); k++) {
            image.link(1, chain[k], k + 1 < chain.length ? chain[k + 1] : 4088 + below(8));
            if (once(3)) {
                image.link(0, chain[k], below(2));
            }
        }
    }

    private void directory(int[] chain, int level) {
        linkAll(chain);
        int slots = chain.length * clusterBytes / 8;
        int used = once(3) ? slots : Math.min(slots, 2 + below(6));
        for (int slot = 0; slot < used; slot++) {
            int cluster = chain[slot * 8 / clusterBytes];
            int inside = slot % (clusterBytes / 8);
            boolean boot = level == 0 && slot == 0 && !once(12);
            member(cluster, inside, level, boot ? "BOOT" : NAMES[below(NAMES.length)], boot);
        }
    }

    private void member(int cluster, int slot, int level, String name, boolean boot) {
        if (boot) {
            content(cluster, slot, name, settings());
        } else if (once(12)) {
            image.entry(cluster, slot, once(2) ? "\u00e5A" : name, Image.PASSED * below(2), below(256), below(100));
        } else if (once(level < 2 ? 3 : 6)) {
            int[] chain = once(10) ? new int[] {2 + below(6)} : take(1 + below(2));
            image.entry(cluster, slot, name, Image.DIRECTORY, chain.length == 0 ? 2 : chain[0], below(2));
            if (chain.length > 0 && level < 6 && image.bytes[image.place(chain[0])] == 0) {
                directory(chain, level + 1);
            }
        } else if (once(8)) {
            image.entry(cluster, slot, name, Image.FILE, below(64), once(2) ? 0 : below(100));
        } else {
            content(cluster, slot, name, kernel());
        }
    }

    private void content(int cluster, int slot, String name, byte[] content) {
        int[] chain = take((content.length + clusterBytes - 1) / clusterBytes + below(8) / 7);
        if (chain.length == 0 || chain.length * clusterBytes < content.length) {
            image.entry(cluster, slot, name, Image.FILE, chain.length == 0 ? 0 : chain[0], content.length);
        } else {
            image.file(cluster, slot, name, content, chain);
            linkAll(chain);
        }
    }

    private String path() {
        return once(3) ? PATHS[below(PATHS.length)] : NAMES[below(NAMES.length)];
    }

    private byte[] settings() {
        StringBuilder text = new StringBuilder();
        for (int k = 1 + below(4); k > 0; k--) {
            switch (below(9)) {
                case 0 -> text.append("# no line");
                case 1 -> text.append("A=").append("arguments of the kernel, too many".substring(0, below(27)));
                case 2 -> text.append(once(6) ? "KK" : "Z=");
                case 3, 4 -> text.append("F=").append(path());
                default -> text.append("K=").append(path());
            }
            text.append('\n');
        }
        if (!once(6)) {
            text.append("K=").append(path()).append('\n');
        }
        while (once(20) && text.length() < 195 + below(10)) {
            text.append("#filled up with this line\n");
        }
        byte[] bytes = new byte[text.length() - below(2)];
        for (int k = 0; k < bytes.length; k++) {
            bytes[k] = (byte) text.charAt(k);
        }
        return bytes;
    }

    private byte[] kernel() {
        int size = 20 + below(60);
        int header = 4 * below(9);
        int address = once(6) ? 48 + below(40) : once(6) ? 1024 - size + below(3) - 1 : 16 * (4 + below(54));
        int entry = once(6) ? address + size : address + below(size + 1) - (once(8) ? 1 : 0);
        int flags = once(8) ? below(8) : below(4);
        byte[] content = Image.kernel(Math.max(size, once(10) ? 0 : header + 20), header, flags, address, entry);
        if (once(12)) {
            content[below(content.length)] ^= (byte) (1 << below(8));
        }
        return content;
    }

    private void pokeAll() {
        for (int at = 0; at < 2048; at += 8) {
            if (row(at) != 0) {
                pokeRow(at);
            }
        }
    }

    private long row(int at) {
        long eight = 0;
        for (int k = 7; k >= 0; k--) {
            eight = eight << 8 | image.bytes[at + k] & 255;
        }
        return eight;
    }

    private void pokeRow(int at) {
        poke(at, row(at), 8);
    }

    private int poke(int at, long bytes, int n) {
        due("poke(" + at + ", " + bytes + ", " + n + ")", "poke", x.poke(at, bytes, n) ? 1 : 0, model.poke(at, bytes, n) ? 1 : 0);
        return at;
    }

    /** Disturbs the disk, and answers where. */
    private int pokeSome() {
        int link = image.linkPlace(0, below(clusters + 2));
        int root = image.entryPlace(2, below(4));
        int slot = image.place(2 + below(clusters)) + 8 * below(clusterBytes / 8);
        return switch (below(6)) {
            case 0 -> poke(below(2060) - 4, random.nextLong(), below(10));
            case 1 -> poke(link, below(clusters + 4), 2);
            case 2 -> poke(link, 4080 + below(16), 2);
            case 3 -> poke(root + 4, once(2) ? 0 : 16, 1);
            case 4 -> poke(root + 6, below(256), 1);
            default -> poke(slot, once(2) ? 229 : 'A', 1);
        };
    }

    /** A disturbance of at most eight bytes lies in two rows of eight. */
    private void pokeBack(int at) {
        for (int row = Math.max(0, at & ~7); row <= at + 8 && row < 2048; row += 8) {
            pokeRow(row);
        }
    }

    private void due(String call, String name, long got, long want) {
        left--;
        calls.append("\n  ").append(call).append(" = ").append(got);
        met.merge(want < 2 ? name + " " + want : name + " ..", 1, Integer::sum);
        if (got != want) {
            calls.append(", the model answers ").append(want);
            wrong = true;
        }
    }

    private void typePath() {
        due("scrap()", "scrap", x.scrap(), model.scrap());
        String path = once(8) ? NAMES[below(6)] + "/" + NAMES[below(6)] + (char) (40 + below(70)) : PATHS[below(PATHS.length)];
        for (char c : path.toCharArray()) {
            due("type(" + c + ")", "type", x.type(c) ? 1 : 0, model.type(c) ? 1 : 0);
        }
    }

    private void ask() {
        if (left > 20 && once(4)) {
            typePath();
        }
        int i = once(10) ? random.nextInt() : below(12);
        switch (below(8)) {
            case 0 -> due("volume()", "volume", x.volume(), model.volume());
            case 1 -> due("size()", "size", x.size(), model.size());
            case 2 -> due("read(" + i + ")", "read", x.read(i), model.read(i));
            case 3 -> due("list(" + i + ")", "list", x.list(i), model.list(i));
            case 4 -> due("survey()", "survey", x.survey(), model.survey());
            case 5, 6 -> askBoot();
            default -> askState();
        }
    }

    private void askBoot() {
        due("boot()", "boot", x.boot(), model.boot());
        int[] places = {4, 8, 12, 16, 20, 24, 27, 32};
        for (int k = 0; k < 3 && left > 3; k++) {
            int at = once(3) ? below(1024) : places[below(places.length)];
            due("memory(" + at + ")", "memory", x.memory(at), model.memory(at));
        }
        due("entry()", "entry", x.entry(), model.entry());
    }

    private void askState() {
        int at = below(2060) - 6;
        due("peek(" + at + ")", "peek", x.peek(at), model.peek(at));
        due("memory(" + at + ")", "memory", x.memory(at), model.memory(at));
    }
}

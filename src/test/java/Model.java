import java.util.ArrayList;
import java.util.HashSet;
import java.util.LinkedHashMap;
import java.util.List;
import java.util.Map;
import java.util.Set;

/** The document's promises once more, written with the Java library and without regard to what calls cost. */
final class Model {
    /** Carries the answer of a call that ends early. */
    private static final class Stop extends RuntimeException {
        private static final long serialVersionUID = 1;
        final int answer;

        Stop(int answer) {
            super(null, null, false, false);
            this.answer = answer;
        }
    }

    private record Item(String name, boolean directory, int first, int size) {
    }

    private final int[] disk = new int[2048];
    private int[] memory = new int[1024];
    private String typed = "";
    private int entry = -1;

    private int record;
    private int count;
    private int clusterBytes;
    private int root;
    private int dataPlace;
    private List<Integer> tablePlaces;

    boolean poke(int at, long bytes, int n) {
        if (n < 1 || n > 8 || at < 0 || (long) at + n > 2048) {
            return false;
        }
        for (int k = 0; k < n; k++) {
            disk[at + k] = (int) (bytes >>> 8 * k) & 255;
        }
        return true;
    }

    int peek(int at) {
        return at < 0 || at > 2047 ? -1 : disk[at];
    }

    int memory(int at) {
        return at < 0 || at > 1023 ? -1 : memory[at];
    }

    int entry() {
        return entry;
    }

    boolean type(char c) {
        if (typed.length() == 20 || c < ' ' || c > '~') {
            return false;
        }
        typed += c;
        return true;
    }

    int scrap() {
        int had = typed.length();
        typed = "";
        return had;
    }

    int volume() {
        try {
            mount();
            return count;
        } catch (Stop stop) {
            return stop.answer;
        }
    }

    int size() {
        try {
            mount();
            return file(typed).size;
        } catch (Stop stop) {
            return stop.answer;
        }
    }

    int read(int i) {
        try {
            mount();
            int[] content = content(file(typed));
            return i < 0 || i >= content.length ? -1 : content[i];
        } catch (Stop stop) {
            return stop.answer;
        }
    }

    long list(int i) {
        try {
            mount();
            Item item = typed.isEmpty() ? new Item("", true, root, 0) : find(typed);
            if (!item.directory) {
                throw new Stop(-8);
            }
            List<Item> items = items(item.first);
            if (i < 0 || i >= items.size()) {
                return -1;
            }
            long answer = 0;
            for (int k = 0; k < 4; k++) {
                answer += (long) items.get(i).name.charAt(k) << 8 * k;
            }
            return answer;
        } catch (Stop stop) {
            return stop.answer;
        }
    }

    int survey() {
        try {
            mount();
            int[] counts = new int[2];
            survey(root, 0, counts);
            return counts[0] + 1000 * counts[1];
        } catch (Stop stop) {
            return stop.answer;
        }
    }

    int boot() {
        Map<Character, String> settings;
        try {
            mount();
            settings = settings();
        } catch (Stop stop) {
            return stop.answer;
        }
        try {
            load(settings.get('K'), settings.getOrDefault('A', ""));
            return 0;
        } catch (Stop stop) {
            if (!settings.containsKey('F')) {
                return stop.answer;
            }
        }
        try {
            load(settings.get('F'), settings.getOrDefault('A', ""));
            return 1;
        } catch (Stop stop) {
            return stop.answer;
        }
    }

    private static void need(boolean holds, int otherwise) {
        if (!holds) {
            throw new Stop(otherwise);
        }
    }

    private int word(int at) {
        return disk[at] + 256 * disk[at + 1];
    }

    private void mount() {
        need(word(30) == 85 + 256 * 170, -2);
        List<Integer> usable = new ArrayList<>();
        List<Integer> active = new ArrayList<>();
        for (int k = 0; k < 3; k++) {
            int at = 6 + 8 * k;
            if (disk[at + 1] == 12 && disk[at + 2] > 0 && disk[at + 3] > 0 && disk[at + 2] + disk[at + 3] - 1 <= 63) {
                usable.add(k);
                if (disk[at] == 128) {
                    active.add(k);
                }
            }
        }
        need(!usable.isEmpty(), -3);
        record = active.isEmpty() ? usable.get(0) : active.get(0);
        int start = disk[6 + 8 * record + 2];
        int sectors = disk[6 + 8 * record + 3];
        int[] said = new int[6];
        System.arraycopy(disk, 32 * start, said, 0, 6);
        need(said[0] == 235 && word(32 * start + 30) == 85 + 256 * 170, -4);
        need(Set.of(1, 2, 4).contains(said[1]) && said[2] >= 1 && Set.of(1, 2).contains(said[3]) && said[4] >= 1, -4);
        tablePlaces = new ArrayList<>();
        int sector = start + said[2];
        for (int k = 0; k < said[3]; k++) {
            tablePlaces.add(32 * sector);
            sector += said[4];
        }
        dataPlace = 32 * sector;
        clusterBytes = 32 * said[1];
        count = 0;
        while (sector + said[1] <= start + sectors) {
            sector += said[1];
            count++;
        }
        root = said[5];
        need(count >= 1 && 32 * said[4] >= 2 * (count + 2) && root >= 2 && root <= count + 1, -4);
    }

    private int next(int cluster) {
        int said = -1;
        for (int place : tablePlaces) {
            said = word(place + 2 * cluster) % 4096;
            if (said >= 2 && said <= count + 1 || said >= 4088) {
                return said;
            }
        }
        return said;
    }

    private int[] chainBytes(int first) {
        List<Integer> clusters = new ArrayList<>();
        Set<Integer> met = new HashSet<>();
        for (int cluster = first; cluster < 4088; cluster = next(cluster)) {
            need(cluster >= 2 && cluster <= count + 1 && met.add(cluster), -9);
            clusters.add(cluster);
        }
        int[] bytes = new int[clusters.size() * clusterBytes];
        for (int k = 0; k < clusters.size(); k++) {
            System.arraycopy(disk, dataPlace + (clusters.get(k) - 2) * clusterBytes, bytes, k * clusterBytes, clusterBytes);
        }
        return bytes;
    }

    private List<Item> items(int first) {
        int[] bytes = chainBytes(first);
        List<Item> items = new ArrayList<>();
        for (int at = 0; at < bytes.length && bytes[at] != 0; at += 8) {
            if (bytes[at] != 229 && bytes[at + 4] / 8 % 2 == 0) {
                String name = new String(bytes, at, 4);
                items.add(new Item(name, bytes[at + 4] / 16 % 2 == 1, bytes[at + 5], bytes[at + 6] + 256 * bytes[at + 7]));
            }
        }
        return items;
    }

    private Item find(String path) {
        need(path.matches("[A-Z0-9]{1,4}(/[A-Z0-9]{1,4}){0,3}"), -5);
        Item item = new Item("", true, root, 0);
        for (String name : path.split("/")) {
            need(item.directory, -8);
            String filled = (name + "   ").substring(0, 4);
            item = items(item.first).stream().filter(one -> one.name.equals(filled)).findFirst().orElseThrow(() -> new Stop(-6));
        }
        return item;
    }

    private Item file(String path) {
        Item item = find(path);
        need(!item.directory, -7);
        return item;
    }

    private int[] content(Item item) {
        int[] content = new int[item.size];
        if (item.size > 0) {
            int[] bytes = chainBytes(item.first);
            need(bytes.length >= item.size, -9);
            System.arraycopy(bytes, 0, content, 0, item.size);
        }
        return content;
    }

    private void survey(int first, int level, int[] counts) {
        for (Item item : items(first)) {
            need(counts[0] + counts[1] < 250, -14);
            if (item.directory) {
                need(level < 4, -13);
                counts[1]++;
                survey(item.first, level + 1, counts);
            } else {
                counts[0]++;
            }
        }
    }

    private Map<Character, String> settings() {
        int[] content = content(file("BOOT"));
        need(content.length <= 200, -10);
        Map<Character, String> settings = new LinkedHashMap<>();
        for (String line : new String(content, 0, content.length).split("\n", -1)) {
            if (line.isEmpty() || line.startsWith("#")) {
                continue;
            }
            need(line.indexOf('=', 1) == 1, -10);
            need(line.charAt(0) != 'A' || line.length() <= 26, -10);
            settings.put(line.charAt(0), line.substring(2));
        }
        need(settings.containsKey('K'), -10);
        return settings;
    }

    private static int intAt(int[] bytes, int at) {
        return bytes[at] + (bytes[at + 1] << 8) + (bytes[at + 2] << 16) + (bytes[at + 3] << 24);
    }

    private static void intInto(int[] bytes, int at, int value) {
        for (int k = 0; k < 4; k++) {
            bytes[at + k] = value >>> 8 * k & 255;
        }
    }

    private void load(String path, String arguments) {
        int[] content = content(file(path));
        int header = -1;
        for (int p = 28; p >= 0; p -= 4) {
            if (p + 20 <= content.length && intAt(content, p) == 464367618) {
                header = p;
            }
        }
        need(header >= 0, -11);
        int flags = intAt(content, header + 4);
        long address = intAt(content, header + 12);
        long start = intAt(content, header + 16);
        need(464367618 + flags + intAt(content, header + 8) == 0 && flags >= 0 && flags <= 3, -11);
        need(flags % 2 == 0 || address % 16 == 0, -11);
        need(address >= 64 && address + content.length <= 1024, -12);
        need(start >= address && start < address + content.length, -12);
        memory = new int[1024];
        System.arraycopy(content, 0, memory, (int) address, content.length);
        int[] ints = {732803074, flags >= 2 ? 1024 : 0, arguments.isEmpty() ? 0 : 32, (int) address,
            (int) address + content.length, record};
        int sum = 0;
        for (int k = 0; k < 6; k++) {
            intInto(memory, 4 * k, ints[k]);
            sum += ints[k];
        }
        intInto(memory, 24, -sum);
        for (int k = 0; k < arguments.length(); k++) {
            memory[32 + k] = arguments.charAt(k);
        }
        entry = (int) start;
    }
}

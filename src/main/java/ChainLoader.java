import java.util.Arrays;

/** A boot loader for a small disk; ../shared/DOC.md says what each call promises. */
public final class ChainLoader {
    public static final int BAD = -1;
    public static final int NO_DISK = -2;
    public static final int NO_PARTITION = -3;
    public static final int BAD_VOLUME = -4;
    public static final int BAD_PATH = -5;
    public static final int ABSENT = -6;
    public static final int IS_DIRECTORY = -7;
    public static final int NOT_DIRECTORY = -8;
    public static final int BROKEN = -9;
    public static final int BAD_SETTINGS = -10;
    public static final int BAD_HEADER = -11;
    public static final int NO_ROOM = -12;
    public static final int DEEP = -13;
    public static final int MANY = -14;

    private static final int DISK_BYTES = 2048;
    private static final int MEMORY_BYTES = 1024;
    private static final int TYPED_MOST = 20;
    private static final int INFORMATION_MARK = 732803074;
    private static final int ARGUMENTS_PLACE = 32;
    private static final int[] SETTINGS_NAME = {'B', 'O', 'O', 'T'};

    private final Bytes disk;
    private final Bytes ram;
    private final Volume mounted;
    private final Path path;
    private final Files files;
    private final Census census;
    private final Settings settings;
    private final Kernel kernel;
    private final int[] typed;
    private int typedCount;
    private int loadedEntry;

    public ChainLoader() {
        disk = new Bytes(DISK_BYTES);
        ram = new Bytes(MEMORY_BYTES);
        mounted = new Volume(disk);
        path = new Path();
        files = new Files(disk, mounted);
        census = new Census(disk, mounted);
        settings = new Settings();
        kernel = new Kernel();
        typed = new int[TYPED_MOST];
        typedCount = 0;
        loadedEntry = BAD;
    }

    public boolean poke(int at, long bytes, int n) {
        return disk.put(at, bytes, n);
    }

    public int peek(int at) {
        return disk.byteAt(at);
    }

    public int volume() {
        return mounted.mount();
    }

    public boolean type(char c) {
        if (typedCount >= TYPED_MOST || c < 32 || c > 126) {
            return false;
        }
        typed[typedCount] = c;
        typedCount++;
        return true;
    }

    public int scrap() {
        int had = typedCount;
        typedCount = 0;
        return had;
    }

    public int size() {
        int at = findTypedFile();
        return at < 0 ? at : mounted.sizeOf(at);
    }

    public int read(int i) {
        int at = findTypedFile();
        if (at < 0) {
            return at;
        }
        int length = files.open(at);
        if (length < 0) {
            return length;
        }
        return i >= 0 && i < length ? files.content.byteAt(i) : BAD;
    }

    public long list(int i) {
        int clusters = mounted.mount();
        if (clusters < 0) {
            return clusters;
        }
        int first = findTypedDirectory();
        return first < 0 ? first : files.nameNumbered(first, i);
    }

    public int survey() {
        int clusters = mounted.mount();
        return clusters < 0 ? clusters : census.countAll();
    }

    public int boot() {
        int clusters = mounted.mount();
        if (clusters < 0) {
            return clusters;
        }
        int told = takeSettings();
        if (told < 0) {
            return told;
        }
        int done = load(settings.kernelPath);
        if (done == 0 || !settings.otherPath.given) {
            return done;
        }
        done = load(settings.otherPath);
        return done == 0 ? 1 : done;
    }

    public int memory(int at) {
        return ram.byteAt(at);
    }

    public int entry() {
        return loadedEntry;
    }

    /** Answers the disk place of the file's entry, or why there is none. */
    private int findTypedFile() {
        int clusters = mounted.mount();
        if (clusters < 0) {
            return clusters;
        }
        return path.parse(typed, 0, typedCount) ? files.findFile(path) : BAD_PATH;
    }

    /** Answers the directory's first cluster, or why there is none. */
    private int findTypedDirectory() {
        if (typedCount == 0) {
            return mounted.root;
        }
        if (!path.parse(typed, 0, typedCount)) {
            return BAD_PATH;
        }
        int at = files.find(path);
        if (at < 0) {
            return at;
        }
        return mounted.isDirectory(at) ? mounted.firstClusterOf(at) : NOT_DIRECTORY;
    }

    private int takeSettings() {
        path.parse(SETTINGS_NAME, 0, SETTINGS_NAME.length);
        int at = files.findFile(path);
        if (at < 0) {
            return at;
        }
        int length = files.open(at);
        if (length < 0) {
            return length;
        }
        return settings.take(files.content, length) ? 0 : BAD_SETTINGS;
    }

    private int load(Value wanted) {
        if (!path.parse(settings.text, wanted.from, wanted.to)) {
            return BAD_PATH;
        }
        int at = files.findFile(path);
        if (at < 0) {
            return at;
        }
        int length = files.open(at);
        if (length < 0) {
            return length;
        }
        if (!kernel.takeHeader(files.content, length)) {
            return BAD_HEADER;
        }
        if (!kernel.fits(length)) {
            return NO_ROOM;
        }
        ram.clear();
        copyKernel(length);
        writeInformation(length);
        copyArguments();
        loadedEntry = kernel.start;
        return 0;
    }

    private void copyKernel(int length) {
        for (int i = 0; i < length; i++) {
            ram.put(kernel.address + i, files.content.byteAt(i), 1);
        }
    }

    private void writeInformation(int length) {
        int memoryBytes = kernel.wantsMemoryBytes() ? MEMORY_BYTES : 0;
        int argumentsAt = settings.arguments.to > settings.arguments.from ? ARGUMENTS_PLACE : 0;
        int end = kernel.address + length;
        ram.put(0, INFORMATION_MARK, 4);
        ram.put(4, memoryBytes, 4);
        ram.put(8, argumentsAt, 4);
        ram.put(12, kernel.address, 4);
        ram.put(16, end, 4);
        ram.put(20, mounted.record, 4);
        ram.put(24, -(INFORMATION_MARK + memoryBytes + argumentsAt + kernel.address + end + mounted.record), 4);
    }

    private void copyArguments() {
        Value arguments = settings.arguments;
        for (int i = arguments.from; i < arguments.to; i++) {
            ram.put(ARGUMENTS_PLACE + i - arguments.from, settings.text[i], 1);
        }
    }

    /** A row of bytes, 0 .. 255: the disk, or memory. */
    private static final class Bytes {
        private final byte[] cells;

        Bytes(int count) {
            cells = new byte[count];
        }

        int byteAt(int at) {
            return at >= 0 && at < cells.length ? cells[at] & 255 : BAD;
        }

        /** Answers 0 for a word that does not lie in the row. */
        int wordAt(int at) {
            if (at < 0 || at >= cells.length - 1) {
                return 0;
            }
            return (cells[at] & 255) | (cells[at + 1] & 255) << 8;
        }

        boolean put(int at, long bytes, int n) {
            // at is compared with a difference, as at + n could wrap.
            if (n < 1 || n > 8 || at < 0 || at > cells.length - n) {
                return false;
            }
            for (int k = 0; k < n; k++) {
                cells[at + k] = (byte) (bytes >> 8 * k);
            }
            return true;
        }

        void clear() {
            Arrays.fill(cells, (byte) 0);
        }
    }

    /** The partition's volume as the disk tells it at the last mount. */
    private static final class Volume {
        private static final int SECTOR_BYTES = 32;
        private static final int SECTORS = 64;
        private static final int RECORDS = 3;
        private static final int RECORDS_PLACE = 6;
        private static final int RECORD_BYTES = 8;
        private static final int ACTIVE = 128;
        private static final int PARTITION_TYPE = 12;
        private static final int VOLUME_MARK = 235;
        private static final int LINK_BITS = 4095;
        private static final int CHAIN_END = 4088;
        private static final int DIRECTORY_BIT = 16;

        private final Bytes disk;
        int record;
        int root;
        int clusters;
        int clusterBytes;
        private int tables;
        private int tableBytes;
        private int tablesPlace;
        private int clustersPlace;

        Volume(Bytes disk) {
            this.disk = disk;
        }

        /** Answers the number of clusters, or why there is no volume. */
        int mount() {
            if (!isSigned(0)) {
                return NO_DISK;
            }
            record = choosePartition();
            if (record < 0) {
                return NO_PARTITION;
            }
            int at = placeOfRecord(record);
            return takeGeometry(disk.byteAt(at + 2) * SECTOR_BYTES, disk.byteAt(at + 3)) ? clusters : BAD_VOLUME;
        }

        private boolean isSigned(int sectorPlace) {
            return disk.byteAt(sectorPlace + 30) == 85 && disk.byteAt(sectorPlace + 31) == 170;
        }

        private int placeOfRecord(int number) {
            return RECORDS_PLACE + RECORD_BYTES * number;
        }

        private int choosePartition() {
            int chosen = BAD;
            for (int k = 0; k < RECORDS; k++) {
                if (!isUsable(k)) {
                    continue;
                }
                if (disk.byteAt(placeOfRecord(k)) == ACTIVE) {
                    return k;
                }
                if (chosen < 0) {
                    chosen = k;
                }
            }
            return chosen;
        }

        private boolean isUsable(int number) {
            int at = placeOfRecord(number);
            int firstSector = disk.byteAt(at + 2);
            int sectors = disk.byteAt(at + 3);
            return disk.byteAt(at + 1) == PARTITION_TYPE
                && firstSector >= 1 && sectors >= 1 && firstSector + sectors <= SECTORS;
        }

        private boolean takeGeometry(int place, int sectors) {
            int clusterSectors = disk.byteAt(place + 1);
            int sectorsBefore = disk.byteAt(place + 2);
            tables = disk.byteAt(place + 3);
            int tableSectors = disk.byteAt(place + 4);
            root = disk.byteAt(place + 5);
            if (disk.byteAt(place) != VOLUME_MARK || !isSigned(place)) {
                return false;
            }
            if (clusterSectors != 1 && clusterSectors != 2 && clusterSectors != 4) {
                return false;
            }
            if (sectorsBefore < 1 || tables < 1 || tables > 2 || tableSectors < 1) {
                return false;
            }
            int sectorsAhead = sectorsBefore + tables * tableSectors;
            clusters = (sectors - sectorsAhead) / clusterSectors;
            clusterBytes = clusterSectors * SECTOR_BYTES;
            tableBytes = tableSectors * SECTOR_BYTES;
            tablesPlace = place + sectorsBefore * SECTOR_BYTES;
            clustersPlace = place + sectorsAhead * SECTOR_BYTES;
            return clusters >= 1 && tableBytes >= 2 * (clusters + 2) && isCluster(root);
        }

        boolean isCluster(int number) {
            return number >= 2 && number <= clusters + 1;
        }

        boolean isEnd(int number) {
            return number >= CHAIN_END;
        }

        /** Answers what the tables say to come behind a cluster. */
        int behind(int cluster) {
            int place = tablesPlace + 2 * cluster;
            int said = disk.wordAt(place) & LINK_BITS;
            if (isCluster(said) || isEnd(said) || tables < 2) {
                return said;
            }
            return disk.wordAt(place + tableBytes) & LINK_BITS;
        }

        int placeOfCluster(int number) {
            return clustersPlace + (number - 2) * clusterBytes;
        }

        boolean isDirectory(int entryPlace) {
            return (disk.byteAt(entryPlace + 4) & DIRECTORY_BIT) != 0;
        }

        int firstClusterOf(int entryPlace) {
            return disk.byteAt(entryPlace + 5);
        }

        int sizeOf(int entryPlace) {
            return disk.wordAt(entryPlace + 6);
        }
    }

    /** The clusters of one chain by their disk places, and a walk over the entries in them. */
    private static final class Chain {
        static final int ENTRY_BYTES = 8;
        /** No directory has more entries than fit onto the disk. */
        static final int ENTRIES_MOST = DISK_BYTES / ENTRY_BYTES;
        private static final int CLUSTERS_MOST = 64;
        private static final int ERASED = 229;
        private static final int PASSED_BIT = 8;

        private final Bytes disk;
        private final Volume mounted;
        private final int[] places;
        private int count;
        private int nextSlot;

        Chain(Bytes disk, Volume mounted) {
            this.disk = disk;
            this.mounted = mounted;
            places = new int[CLUSTERS_MOST];
        }

        /** False if the chain is broken. The walk over the entries begins anew. */
        boolean trace(int first) {
            count = 0;
            nextSlot = 0;
            int number = first;
            // A chain longer than all clusters has one of them twice, so no marks are needed.
            while (count < mounted.clusters && count < CLUSTERS_MOST) {
                if (!mounted.isCluster(number)) {
                    return false;
                }
                places[count] = mounted.placeOfCluster(number);
                count++;
                number = mounted.behind(number);
                if (mounted.isEnd(number)) {
                    return true;
                }
            }
            return false;
        }

        int bytes() {
            return count * mounted.clusterBytes;
        }

        /** Answers the disk place of byte i of the chain; BAD if there is none. */
        int placeOf(int i) {
            int clusterBytes = mounted.clusterBytes;
            if (i < 0 || clusterBytes < 1 || i / clusterBytes >= count) {
                return BAD;
            }
            return places[i / clusterBytes] + i % clusterBytes;
        }

        int byteAt(int i) {
            return disk.byteAt(placeOf(i));
        }

        int intAt(int i) {
            return byteAt(i) | byteAt(i + 1) << 8 | byteAt(i + 2) << 16 | byteAt(i + 3) << 24;
        }

        /** Answers the disk place of the next entry that is not passed over; BAD behind the last. */
        int nextEntry() {
            int slots = bytes() / ENTRY_BYTES;
            while (nextSlot < slots) {
                int at = placeOf(nextSlot * ENTRY_BYTES);
                int mark = disk.byteAt(at);
                if (mark == 0) {
                    return BAD;
                }
                nextSlot++;
                if (mark != ERASED && (disk.byteAt(at + 4) & PASSED_BIT) == 0) {
                    return at;
                }
            }
            return BAD;
        }
    }

    /** The names of a path, each filled up with blanks. */
    private static final class Path {
        private static final int NAMES_MOST = 4;
        private static final int NAME_LETTERS = 4;
        private static final int BLANK = 32;

        private final int[] letters;
        int count;

        Path() {
            letters = new int[NAMES_MOST * NAME_LETTERS];
        }

        /** False if the part of the text is no path. */
        boolean parse(int[] text, int from, int to) {
            Arrays.fill(letters, BLANK);
            int name = 0;
            int length = 0;
            for (int i = from; i < to; i++) {
                if (text[i] == '/') {
                    name++;
                    if (length == 0 || name == NAMES_MOST) {
                        return false;
                    }
                    length = 0;
                } else {
                    if (length == NAME_LETTERS || !isLetter(text[i])) {
                        return false;
                    }
                    letters[name * NAME_LETTERS + length] = text[i];
                    length++;
                }
            }
            count = name + 1;
            return length > 0;
        }

        private boolean isLetter(int c) {
            return c >= 'A' && c <= 'Z' || c >= '0' && c <= '9';
        }

        boolean isNameAt(int name, Bytes disk, int entryPlace) {
            for (int k = 0; k < NAME_LETTERS; k++) {
                if (disk.byteAt(entryPlace + k) != letters[name * NAME_LETTERS + k]) {
                    return false;
                }
            }
            return true;
        }
    }

    /** Finds entries of the mounted volume and opens what they stand for. */
    private static final class Files {
        private final Bytes disk;
        private final Volume mounted;
        private final Chain directory;
        final Chain content;

        Files(Bytes disk, Volume mounted) {
            this.disk = disk;
            this.mounted = mounted;
            directory = new Chain(disk, mounted);
            content = new Chain(disk, mounted);
        }

        /** Answers the disk place of the path's entry, or why it is not found. */
        int find(Path path) {
            int first = mounted.root;
            int at = ABSENT;
            for (int name = 0; name < path.count; name++) {
                if (name > 0) {
                    if (!mounted.isDirectory(at)) {
                        return NOT_DIRECTORY;
                    }
                    first = mounted.firstClusterOf(at);
                }
                if (!directory.trace(first)) {
                    return BROKEN;
                }
                at = findName(path, name);
                if (at < 0) {
                    return ABSENT;
                }
            }
            return at;
        }

        private int findName(Path path, int name) {
            for (int k = 0; k < Chain.ENTRIES_MOST; k++) {
                int at = directory.nextEntry();
                if (at < 0 || path.isNameAt(name, disk, at)) {
                    return at;
                }
            }
            return BAD;
        }

        int findFile(Path path) {
            int at = find(path);
            return at >= 0 && mounted.isDirectory(at) ? IS_DIRECTORY : at;
        }

        /** Answers the file's size, its bytes then standing in content; or BROKEN. */
        int open(int entryPlace) {
            int length = mounted.sizeOf(entryPlace);
            if (length == 0) {
                return 0;
            }
            boolean whole = content.trace(mounted.firstClusterOf(entryPlace)) && content.bytes() >= length;
            return whole ? length : BROKEN;
        }

        /** Answers the name of the i-th entry of a directory as a number. */
        long nameNumbered(int first, int i) {
            if (!directory.trace(first)) {
                return BROKEN;
            }
            for (int k = 0; k < Chain.ENTRIES_MOST; k++) {
                int at = directory.nextEntry();
                if (at < 0) {
                    return BAD;
                }
                if (k == i) {
                    return disk.wordAt(at) | (long) disk.wordAt(at + 2) << 16;
                }
            }
            return BAD;
        }
    }

    /** Counts the files and directories of the mounted volume. */
    private static final class Census {
        private static final int LEVELS = 5;
        private static final int MET_MOST = 250;

        private final Volume mounted;
        /** One chain a level, as a directory's walk goes on when what is below it is done. */
        private final Chain[] levels;
        private int met;
        private int directories;

        Census(Bytes disk, Volume mounted) {
            this.mounted = mounted;
            levels = new Chain[LEVELS];
            for (int k = 0; k < LEVELS; k++) {
                levels[k] = new Chain(disk, mounted);
            }
        }

        int countAll() {
            met = 0;
            directories = 0;
            int done = countDirectory(mounted.root, 0);
            return done < 0 ? done : met - directories + 1000 * directories;
        }

        private int countDirectory(int first, int level) {
            if (level >= LEVELS) {
                return DEEP;
            }
            Chain chain = levels[level];
            if (!chain.trace(first)) {
                return BROKEN;
            }
            for (int k = 0; k < Chain.ENTRIES_MOST; k++) {
                int at = chain.nextEntry();
                if (at < 0) {
                    return 0;
                }
                int done = countEntry(at, level);
                if (done < 0) {
                    return done;
                }
            }
            return 0;
        }

        private int countEntry(int at, int level) {
            met++;
            if (met > MET_MOST) {
                return MANY;
            }
            if (!mounted.isDirectory(at)) {
                return 0;
            }
            directories++;
            return countDirectory(mounted.firstClusterOf(at), level + 1);
        }
    }

    /** A part of the settings' text; empty and not given where no line says it. */
    private static final class Value {
        boolean given;
        int from;
        int to;

        void forget() {
            given = false;
            from = 0;
            to = 0;
        }

        void set(int start, int end) {
            given = true;
            from = start;
            to = end;
        }
    }

    /** The text of settings and what its lines say. */
    private static final class Settings {
        private static final int TEXT_MOST = 200;
        private static final int ARGUMENTS_MOST = 24;
        private static final int LINE_END = 10;

        final int[] text;
        final Value kernelPath;
        final Value otherPath;
        final Value arguments;

        Settings() {
            text = new int[TEXT_MOST];
            kernelPath = new Value();
            otherPath = new Value();
            arguments = new Value();
        }

        /** False if these are bad settings. */
        boolean take(Chain content, int length) {
            if (length > TEXT_MOST) {
                return false;
            }
            kernelPath.forget();
            otherPath.forget();
            arguments.forget();
            for (int i = 0; i < length; i++) {
                text[i] = content.byteAt(i);
            }
            int from = 0;
            for (int i = 0; i <= length; i++) {
                if (i == length || text[i] == LINE_END) {
                    if (!takeLine(from, i)) {
                        return false;
                    }
                    from = i + 1;
                }
            }
            return kernelPath.given;
        }

        private boolean takeLine(int from, int to) {
            if (from >= to || text[from] == '#') {
                return true;
            }
            if (to - from < 2 || text[from + 1] != '=') {
                return false;
            }
            switch (text[from]) {
                case 'K':
                    kernelPath.set(from + 2, to);
                    return true;
                case 'F':
                    otherPath.set(from + 2, to);
                    return true;
                case 'A':
                    arguments.set(from + 2, to);
                    return to - from - 2 <= ARGUMENTS_MOST;
                default:
                    return true;
            }
        }
    }

    /** What the header of a kernel says. */
    private static final class Kernel {
        private static final int HEADER_MARK = 464367618;
        private static final int HEADER_BYTES = 20;
        private static final int HEADER_STEP = 4;
        private static final int LAST_PLACE = 28;
        private static final int LOWEST_ADDRESS = 64;
        private static final int ALIGNED_BIT = 1;
        private static final int MEMORY_BIT = 2;

        private int flags;
        int address;
        int start;

        /** False if there is no header, or a bad one. */
        boolean takeHeader(Chain content, int length) {
            int place = findHeader(content, length);
            if (place < 0) {
                return false;
            }
            flags = content.intAt(place + 4);
            address = content.intAt(place + 12);
            start = content.intAt(place + 16);
            if (HEADER_MARK + flags + content.intAt(place + 8) != 0) {
                return false;
            }
            if ((flags & ~(ALIGNED_BIT | MEMORY_BIT)) != 0) {
                return false;
            }
            return (flags & ALIGNED_BIT) == 0 || address % 16 == 0;
        }

        private int findHeader(Chain content, int length) {
            for (int p = 0; p <= LAST_PLACE && p + HEADER_BYTES <= length; p += HEADER_STEP) {
                if (content.intAt(p) == HEADER_MARK) {
                    return p;
                }
            }
            return BAD;
        }

        boolean fits(int length) {
            // The address is compared with a difference, as its sum with the length could wrap.
            return address >= LOWEST_ADDRESS && address <= MEMORY_BYTES - length
                && start >= address && start < address + length;
        }

        boolean wantsMemoryBytes() {
            return (flags & MEMORY_BIT) != 0;
        }
    }
}

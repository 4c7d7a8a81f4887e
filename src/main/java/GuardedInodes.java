import java.util.Arrays;

/**
 * An inode store that guards what it has: owners, modes and lists of who may do what, attributes in an
 * inode's tail or in a block beside, quotas with soft limits that hold for a while, and data with holes.
 */
public final class GuardedInodes {
    public static final int NONE = -1, BAD = -2, DENIED = -3, NO_ROOM = -4, NO_QUOTA = -5, NOT_EMPTY = -6, MISSING = -7;

    private static final int KEEPER = 0;
    private static final int IDS = 16;
    private static final int OF_USER = 0, OF_GROUP = 1;

    private static final int ROOT = 0;
    private static final int INODES = 64;
    private static final int FILE = 1, FOLDER = 2;

    private static final int READ = 4, WRITE = 2, EXECUTE = 1;
    private static final int WRITE_AND_EXECUTE = 3;
    private static final int THREE_BITS = 7, NINE_BITS = 511;
    private static final int ALL_EXECUTES = 64 + 8 + 1;
    private static final int STICKY = 512, HANDED_ON = 1024;
    private static final int HIGHEST_CREATED = 1023, HIGHEST_MODE = 2047;
    private static final int MOST_ENTRIES = 8;

    private static final int BLOCKS = 256;
    private static final int BLOCK_BYTES = 64;
    private static final int PARTS = 12;
    private static final int HIGHEST_SIZE = 768;
    private static final int WORD_BYTES = 8;

    private static final int ATTRIBUTES = 32;
    private static final int KEEPERS_ATTRIBUTES = 16;
    private static final int VALUE_BYTES = 60;
    private static final int ATTRIBUTE_HEAD = 3;
    private static final int TAIL_BYTES = 40;
    private static final long NOT_ALL_LIE = -1L;

    private static final int CHARGED_BLOCKS = 0, CHARGED_INODES = 1;
    private static final int HIGHEST_LIMIT = 1000;
    private static final int HIGHEST_GRACE = 100000;
    private static final int HIGHEST_TICK = 10000;
    private static final int LAST_MINUTE = 1000000;

    private final int[] firstGroups = new int[IDS];
    private final int[] otherGroups = new int[IDS];
    private final int[] masks = new int[IDS];
    private final Inode[] inodes = new Inode[INODES];
    private final Disk disk = new Disk();
    private final Ledger ledger = new Ledger();
    private final byte[] value = new byte[VALUE_BYTES];
    private int valueLength;

    public GuardedInodes() {
        for (int user = 0; user < IDS; user++) {
            firstGroups[user] = user;
        }
        inodes[ROOT] = new Inode(FOLDER, ROOT, KEEPER, 0, NINE_BITS);
    }

    public int tick(int minutes) {
        if (minutes < 1 || minutes > HIGHEST_TICK) {
            return BAD;
        }
        ledger.now = Math.min(ledger.now + minutes, LAST_MINUTE);
        return ledger.now;
    }

    public int first(int user, int group) {
        if (!isId(user) || !isId(group)) {
            return BAD;
        }
        int was = firstGroups[user];
        firstGroups[user] = group;
        return was;
    }

    public int member(int user, int group, boolean is) {
        if (!isId(user) || !isId(group)) {
            return BAD;
        }
        int was = (otherGroups[user] >> group) & 1;
        int bit = 1 << group;
        otherGroups[user] = is ? otherGroups[user] | bit : otherGroups[user] & ~bit;
        return was;
    }

    public int mask(int user, int bits) {
        if (!isId(user) || bits < 0 || bits > NINE_BITS) {
            return BAD;
        }
        int was = masks[user];
        masks[user] = bits;
        return was;
    }

    public int create(int user, int folder, int kind, int mode) {
        Inode in = inodeAt(folder);
        if (!isId(user) || in == null || in.kind != FOLDER) {
            return BAD;
        }
        if ((kind != FILE && kind != FOLDER) || !isModeOf(kind, mode, HIGHEST_CREATED)) {
            return BAD;
        }
        if (!allows(in, user, WRITE_AND_EXECUTE)) {
            return DENIED;
        }
        int number = freeInode();
        if (number == NONE) {
            return NO_ROOM;
        }
        int group = (in.mode & HANDED_ON) != 0 ? in.group : firstGroups[user];
        Inode made = new Inode(kind, folder, user, group, mode);
        if (refusesCharge(user, number, made, CHARGED_INODES, 1)) {
            return NO_QUOTA;
        }
        made.inherit(in, mode, masks[user]);
        inodes[number] = made;
        charge(number, made, CHARGED_INODES, 1);
        return number;
    }

    public int remove(int user, int inode) {
        Inode gone = inodeAt(inode);
        if (!isId(user) || gone == null || inode == ROOT) {
            return BAD;
        }
        Inode in = inodeAt(gone.folder);
        if (in == null || !allows(in, user, WRITE_AND_EXECUTE)) {
            return DENIED;
        }
        if ((in.mode & STICKY) != 0 && !commands(user, gone) && !commands(user, in)) {
            return DENIED;
        }
        if (countIn(inode) > 0) {
            return NOT_EMPTY;
        }
        charge(inode, gone, CHARGED_BLOCKS, -gone.blocks());
        charge(inode, gone, CHARGED_INODES, -1);
        disk.release(gone.sideBlock);
        for (int part = 0; part < PARTS; part++) {
            disk.release(gone.parts[part]);
        }
        inodes[inode] = null;
        return 0;
    }

    public int write(int user, int inode, int place, int n, long w) {
        Inode file = inodeAt(inode);
        if (!isId(user) || !isFile(file) || !isSpan(place, n)) {
            return BAD;
        }
        if (!allows(file, user, WRITE)) {
            return DENIED;
        }
        int lacking = file.holesIn(place, n);
        if (lacking > disk.unused()) {
            return NO_ROOM;
        }
        if (refusesCharge(user, inode, file, CHARGED_BLOCKS, lacking)) {
            return NO_QUOTA;
        }
        for (int i = 0; i < n; i++) {
            writeByte(file, place + i, (int) (w >>> (8 * (n - 1 - i))));
        }
        charge(inode, file, CHARGED_BLOCKS, lacking);
        file.size = Math.max(file.size, place + n);
        return file.size;
    }

    public long read(int user, int inode, int place, int n) {
        Inode file = inodeAt(inode);
        if (!isId(user) || !isFile(file) || !isSpan(place, n)) {
            return BAD;
        }
        if (!allows(file, user, READ)) {
            return DENIED;
        }
        long word = 0;
        for (int at = place; at < place + n; at++) {
            word = (word << 8) | disk.byteAt(file.parts[at / BLOCK_BYTES], at % BLOCK_BYTES);
        }
        return word;
    }

    public int resize(int user, int inode, int size) {
        Inode file = inodeAt(inode);
        if (!isId(user) || !isFile(file) || size < 0 || size > HIGHEST_SIZE) {
            return BAD;
        }
        if (!allows(file, user, WRITE)) {
            return DENIED;
        }
        int was = file.size;
        if (size < was) {
            cut(inode, file, size);
        }
        file.size = size;
        return was;
    }

    public int chmod(int user, int inode, int mode) {
        Inode it = inodeAt(inode);
        if (!isId(user) || it == null || !isModeOf(it.kind, mode, HIGHEST_MODE)) {
            return BAD;
        }
        if (!commands(user, it)) {
            return DENIED;
        }
        int was = it.mode;
        it.mode = mode;
        return was;
    }

    public int chown(int user, int inode, int owner, int group) {
        Inode it = inodeAt(inode);
        if (!isId(user) || it == null || inode == ROOT || !isId(owner) || !isId(group)) {
            return BAD;
        }
        boolean keeps = user == it.owner && owner == it.owner && isIn(user, group);
        if (user != KEEPER && !keeps) {
            return DENIED;
        }
        int blocks = it.blocks();
        boolean refused = ledger.refusesMove(OF_USER, it.owner, owner, blocks)
                || ledger.refusesMove(OF_GROUP, it.group, group, blocks);
        if (user != KEEPER && refused) {
            return NO_QUOTA;
        }
        ledger.move(OF_USER, it.owner, owner, blocks);
        ledger.move(OF_GROUP, it.group, group, blocks);
        it.owner = owner;
        it.group = group;
        return 0;
    }

    public int acl(int user, int inode, boolean fresh, int kind, int id, int bits) {
        Inode it = inodeAt(inode);
        if (!isId(user) || it == null || !isZeroOrOne(kind) || !isId(id)) {
            return BAD;
        }
        if (bits < NONE || bits > THREE_BITS || (fresh && it.kind != FOLDER)) {
            return BAD;
        }
        if (!commands(user, it)) {
            return DENIED;
        }
        Rights rights = it.rights(fresh);
        boolean has = rights != null && rights.bitsOf(kind, id) != NONE;
        if (bits == NONE && !has) {
            return MISSING;
        }
        if (!has && rights != null && rights.entries >= MOST_ENTRIES) {
            return NO_ROOM;
        }
        return it.tell(fresh, kind, id, bits);
    }

    public int list(int inode, boolean fresh, int what) {
        Inode it = inodeAt(inode);
        if (it == null || what < 0) {
            return BAD;
        }
        Rights rights = it.rights(fresh);
        if (rights == null) {
            return what == 0 ? 0 : NONE;
        }
        switch (what) {
            case 0:
                return rights.entries;
            case 1:
                return fresh ? rights.allBits() : bitsOfGroup(it.mode);
            case 2:
                return rights.groupBits;
            case 3:
                return fresh ? rights.ownerBits : bitsOfOwner(it.mode);
            case 4:
                return fresh ? rights.othersBits : bitsOfOthers(it.mode);
            default:
                return rights.ofEntry((what - 5) / 3, (what - 5) % 3);
        }
    }

    public int may(int user, int inode, int x) {
        Inode it = inodeAt(inode);
        if (!isId(user) || it == null || x < 0 || x > THREE_BITS) {
            return BAD;
        }
        return allows(it, user, x) ? 1 : 0;
    }

    public int feed(int b) {
        if (b < 0 || b > 255) {
            return BAD;
        }
        if (valueLength >= VALUE_BYTES) {
            return NO_ROOM;
        }
        value[valueLength] = (byte) b;
        valueLength++;
        return valueLength;
    }

    public int put(int user, int inode, int attribute) {
        Inode it = inodeAt(inode);
        if (!isId(user) || it == null || !isAttribute(attribute)) {
            return BAD;
        }
        if (!allowsAttribute(it, user, attribute, WRITE)) {
            return DENIED;
        }
        Attribute told = new Attribute(value, valueLength);
        long beside = it.besideWith(attribute, told);
        if (beside == NOT_ALL_LIE) {
            return NO_ROOM;
        }
        int lacking = beside != 0 && it.sideBlock == NONE ? 1 : 0;
        if (lacking > disk.unused()) {
            return NO_ROOM;
        }
        if (refusesCharge(user, inode, it, CHARGED_BLOCKS, lacking)) {
            return NO_QUOTA;
        }
        it.attributes[attribute] = told;
        settleSideBlock(inode, it, beside != 0);
        valueLength = 0;
        return told.length();
    }

    public int take(int user, int inode, int attribute) {
        Inode it = inodeAt(inode);
        if (!isId(user) || it == null || !isAttribute(attribute)) {
            return BAD;
        }
        if (!allowsAttribute(it, user, attribute, WRITE)) {
            return DENIED;
        }
        Attribute gone = it.attributes[attribute];
        if (gone == null) {
            return MISSING;
        }
        long beside = it.besideWith(attribute, null);
        if (beside == NOT_ALL_LIE) {
            return NO_ROOM;
        }
        it.attributes[attribute] = null;
        settleSideBlock(inode, it, beside != 0);
        return gone.length();
    }

    public int attribute(int user, int inode, int attribute, int k) {
        Inode it = inodeAt(inode);
        if (!isId(user) || it == null || !isAttribute(attribute) || k < NONE) {
            return BAD;
        }
        if (!allowsAttribute(it, user, attribute, READ)) {
            return DENIED;
        }
        Attribute asked = it.attributes[attribute];
        if (asked == null) {
            return MISSING;
        }
        return k == NONE ? asked.length() : asked.byteAt(k);
    }

    public int side(int inode, int attribute) {
        Inode it = inodeAt(inode);
        if (it == null || !isAttribute(attribute)) {
            return BAD;
        }
        Attribute asked = it.attributes[attribute];
        if (asked == null) {
            return MISSING;
        }
        return (int) ((it.besideWith(attribute, asked) >> attribute) & 1);
    }

    public int limit(int kind, int id, int what, int soft, int hard) {
        if (!isZeroOrOne(kind) || !isId(id) || !isZeroOrOne(what) || !isLimit(soft) || !isLimit(hard)) {
            return BAD;
        }
        ledger.tellLimits(kind, id, what, soft, hard);
        return 0;
    }

    public int grace(int kind, int what, int minutes) {
        if (!isZeroOrOne(kind) || !isZeroOrOne(what) || minutes < 0 || minutes > HIGHEST_GRACE) {
            return BAD;
        }
        return ledger.tellGrace(kind, what, minutes);
    }

    public int charged(int kind, int id, int what) {
        if (!isZeroOrOne(kind) || !isId(id) || what < 0 || what > 3) {
            return BAD;
        }
        Quota quota = ledger.quotaOf(kind, id, what % 2);
        return what < 2 ? quota.used : quota.time;
    }

    public int inode(int inode, int what) {
        Inode it = inodeAt(inode);
        if (it == null) {
            return BAD;
        }
        switch (what) {
            case 0:
                return it.kind;
            case 1:
                return it.owner;
            case 2:
                return it.group;
            case 3:
                return it.mode;
            case 4:
                return it.size;
            case 5:
                return it.folder;
            case 6:
                return countIn(inode);
            case 7:
                return it.blocks();
            case 8:
                return it.sideBlock;
            default:
                return what >= 9 && what < 9 + PARTS ? it.parts[what - 9] : BAD;
        }
    }

    public int count(int what) {
        switch (what) {
            case 0:
                return ledger.now;
            case 1:
                return disk.unused();
            case 2:
                return unusedInodes();
            default:
                return BAD;
        }
    }

    private static boolean isId(int id) {
        return id >= 0 && id < IDS;
    }

    private static boolean isZeroOrOne(int number) {
        return number == 0 || number == 1;
    }

    private static boolean isAttribute(int number) {
        return number >= 0 && number < ATTRIBUTES;
    }

    private static boolean isLimit(int limit) {
        return limit >= NONE && limit <= HIGHEST_LIMIT;
    }

    private static boolean isFile(Inode it) {
        return it != null && it.kind == FILE;
    }

    private static boolean isSpan(int place, int n) {
        return n >= 1 && n <= WORD_BYTES && place >= 0 && place <= HIGHEST_SIZE - n;
    }

    private static boolean isModeOf(int kind, int mode, int highest) {
        return mode >= 0 && mode <= (kind == FOLDER ? highest : NINE_BITS);
    }

    private static int bitsOfOwner(int mode) {
        return (mode >> 6) & THREE_BITS;
    }

    private static int bitsOfGroup(int mode) {
        return (mode >> 3) & THREE_BITS;
    }

    private static int bitsOfOthers(int mode) {
        return mode & THREE_BITS;
    }

    private static boolean hasAll(int bits, int x) {
        return (bits & x) == x;
    }

    private Inode inodeAt(int number) {
        return number >= 0 && number < INODES ? inodes[number] : null;
    }

    private int freeInode() {
        for (int number = 0; number < INODES; number++) {
            if (inodes[number] == null) {
                return number;
            }
        }
        return NONE;
    }

    private int unusedInodes() {
        int unused = 0;
        for (int number = 0; number < INODES; number++) {
            if (inodes[number] == null) {
                unused++;
            }
        }
        return unused;
    }

    private int countIn(int folder) {
        int lying = 0;
        // The ROOT lies in itself, and is not counted there.
        for (int number = ROOT + 1; number < INODES; number++) {
            Inode it = inodes[number];
            if (it != null && it.folder == folder) {
                lying++;
            }
        }
        return lying;
    }

    private boolean isIn(int user, int group) {
        return firstGroups[user] == group || ((otherGroups[user] >> group) & 1) != 0;
    }

    private static boolean commands(int user, Inode it) {
        return user == KEEPER || user == it.owner;
    }

    private boolean allows(Inode it, int user, int x) {
        if (user == KEEPER) {
            return (x & EXECUTE) == 0 || it.kind == FOLDER || it.hasSomeExecute();
        }
        if (user == it.owner) {
            return hasAll(bitsOfOwner(it.mode), x);
        }
        if (it.list == null) {
            return hasAll(isIn(user, it.group) ? bitsOfGroup(it.mode) : bitsOfOthers(it.mode), x);
        }
        return allowsByList(it, it.list, user, x);
    }

    private boolean allowsByList(Inode it, Rights list, int user, int x) {
        boolean limitHas = hasAll(bitsOfGroup(it.mode), x);
        int own = list.bitsOf(OF_USER, user);
        if (own != NONE) {
            return limitHas && hasAll(own, x);
        }
        boolean some = false;
        boolean someHas = false;
        if (isIn(user, it.group)) {
            some = true;
            someHas = hasAll(list.groupBits, x);
        }
        for (int group = 0; group < IDS; group++) {
            int bits = list.bitsOf(OF_GROUP, group);
            if (bits != NONE && isIn(user, group)) {
                some = true;
                someHas = someHas || hasAll(bits, x);
            }
        }
        return some ? limitHas && someHas : hasAll(bitsOfOthers(it.mode), x);
    }

    private boolean allowsAttribute(Inode it, int user, int attribute, int x) {
        return attribute >= KEEPERS_ATTRIBUTES ? user == KEEPER : allows(it, user, x);
    }

    private boolean refusesCharge(int user, int number, Inode it, int what, int more) {
        if (user == KEEPER || number == ROOT) {
            return false;
        }
        return ledger.refuses(OF_USER, it.owner, what, more) || ledger.refuses(OF_GROUP, it.group, what, more);
    }

    private void charge(int number, Inode it, int what, int more) {
        if (number != ROOT) {
            ledger.add(OF_USER, it.owner, what, more);
            ledger.add(OF_GROUP, it.group, what, more);
        }
    }

    private void writeByte(Inode file, int at, int b) {
        int part = at / BLOCK_BYTES;
        if (file.parts[part] == NONE) {
            file.parts[part] = disk.claim();
        }
        disk.setByte(file.parts[part], at % BLOCK_BYTES, b);
    }

    private void cut(int number, Inode file, int size) {
        int gone = 0;
        int firstBehind = (size + BLOCK_BYTES - 1) / BLOCK_BYTES;
        for (int part = firstBehind; part < PARTS; part++) {
            if (file.parts[part] != NONE) {
                disk.release(file.parts[part]);
                file.parts[part] = NONE;
                gone++;
            }
        }
        for (int at = size; at < firstBehind * BLOCK_BYTES; at++) {
            disk.setByte(file.parts[at / BLOCK_BYTES], at % BLOCK_BYTES, 0);
        }
        charge(number, file, CHARGED_BLOCKS, -gone);
    }

    private void settleSideBlock(int number, Inode it, boolean needed) {
        if (needed && it.sideBlock == NONE) {
            it.sideBlock = disk.claim();
            charge(number, it, CHARGED_BLOCKS, 1);
        } else if (!needed && it.sideBlock != NONE) {
            disk.release(it.sideBlock);
            it.sideBlock = NONE;
            charge(number, it, CHARGED_BLOCKS, -1);
        }
    }

    private static final class Inode {
        final int kind;
        final int folder;
        int owner;
        int group;
        /** With a list, the group's three bits in here are the list's limit. */
        int mode;
        int size;
        int sideBlock = NONE;
        final int[] parts = new int[PARTS];
        final Attribute[] attributes = new Attribute[ATTRIBUTES];
        Rights list;
        Rights listForNew;

        Inode(int kind, int folder, int owner, int group, int mode) {
            this.kind = kind;
            this.folder = folder;
            this.owner = owner;
            this.group = group;
            this.mode = mode;
            Arrays.fill(parts, NONE);
        }

        void inherit(Inode in, int asked, int mask) {
            int nine = asked & NINE_BITS & ~mask;
            Rights given = in.listForNew;
            if (given != null) {
                nine = asked & given.nineBits();
                list = given.copy();
                listForNew = kind == FOLDER ? given.copy() : null;
            }
            int above = kind == FOLDER ? (asked & STICKY) | (in.mode & HANDED_ON) : 0;
            mode = nine | above;
        }

        Rights rights(boolean fresh) {
            return fresh ? listForNew : list;
        }

        int tell(boolean fresh, int entryKind, int id, int bits) {
            Rights rights = rights(fresh);
            if (rights == null) {
                rights = new Rights(bitsOfOwner(mode), bitsOfGroup(mode), bitsOfOthers(mode));
            }
            rights.tell(entryKind, id, bits);
            Rights kept = rights.entries > 0 ? rights : null;
            if (fresh) {
                listForNew = kept;
            } else {
                list = kept;
                // Without entries all bits are the group's own, which go back to the mode with the list's end.
                mode = (mode & ~(THREE_BITS << 3)) | (rights.allBits() << 3);
            }
            return rights.entries;
        }

        boolean hasSomeExecute() {
            return (mode & ALL_EXECUTES) != 0 || (list != null && (list.allBits() & EXECUTE) != 0);
        }

        int blocks() {
            int having = sideBlock != NONE ? 1 : 0;
            for (int part = 0; part < PARTS; part++) {
                if (parts[part] != NONE) {
                    having++;
                }
            }
            return having;
        }

        int holesIn(int place, int n) {
            int holes = 0;
            for (int part = place / BLOCK_BYTES; part <= (place + n - 1) / BLOCK_BYTES; part++) {
                if (parts[part] == NONE) {
                    holes++;
                }
            }
            return holes;
        }

        /** A bit for each attribute that would lie in the side block if one were told so (null: taken). */
        long besideWith(int changed, Attribute told) {
            long beside = 0;
            int tail = 0;
            int side = 0;
            for (int number = 0; number < ATTRIBUTES; number++) {
                Attribute each = number == changed ? told : attributes[number];
                int needs = each == null ? 0 : ATTRIBUTE_HEAD + each.length();
                if (tail + needs <= TAIL_BYTES) {
                    tail += needs;
                } else if (side + needs <= BLOCK_BYTES) {
                    side += needs;
                    beside |= 1L << number;
                } else {
                    return NOT_ALL_LIE;
                }
            }
            return beside;
        }
    }

    /** A list of who may do what; the bits of owner and others count in a list for new ones alone. */
    private static final class Rights {
        final int ownerBits;
        final int groupBits;
        final int othersBits;
        int entries;
        private final int[] bits = new int[2 * IDS];

        Rights(int ownerBits, int groupBits, int othersBits) {
            this.ownerBits = ownerBits;
            this.groupBits = groupBits;
            this.othersBits = othersBits;
            Arrays.fill(bits, NONE);
        }

        Rights copy() {
            Rights same = new Rights(ownerBits, groupBits, othersBits);
            same.entries = entries;
            System.arraycopy(bits, 0, same.bits, 0, bits.length);
            return same;
        }

        int bitsOf(int kind, int id) {
            return bits[kind * IDS + id];
        }

        void tell(int kind, int id, int becomes) {
            int slot = kind * IDS + id;
            entries += (becomes != NONE ? 1 : 0) - (bits[slot] != NONE ? 1 : 0);
            bits[slot] = becomes;
        }

        int allBits() {
            int all = groupBits;
            for (int slot = 0; slot < bits.length; slot++) {
                if (bits[slot] != NONE) {
                    all |= bits[slot];
                }
            }
            return all;
        }

        /** As a mode for new ones, where the limit stands for the group. */
        int nineBits() {
            return (ownerBits << 6) | (allBits() << 3) | othersBits;
        }

        int ofEntry(int entry, int field) {
            int before = 0;
            for (int slot = 0; slot < bits.length; slot++) {
                if (bits[slot] == NONE) {
                    continue;
                }
                if (before == entry) {
                    return field == 0 ? slot / IDS : field == 1 ? slot % IDS : bits[slot];
                }
                before++;
            }
            return NONE;
        }
    }

    private static final class Attribute {
        private final byte[] bytes;

        Attribute(byte[] from, int length) {
            bytes = Arrays.copyOf(from, length);
        }

        int length() {
            return bytes.length;
        }

        int byteAt(int k) {
            return k >= 0 && k < bytes.length ? bytes[k] & 255 : NONE;
        }
    }

    private static final class Block {
        final byte[] bytes = new byte[BLOCK_BYTES];
    }

    /** The blocks that are used; a block is made anew, all 0, whenever it is claimed. */
    private static final class Disk {
        private final Block[] blocks = new Block[BLOCKS];

        int unused() {
            int unused = 0;
            for (int number = 0; number < BLOCKS; number++) {
                if (blocks[number] == null) {
                    unused++;
                }
            }
            return unused;
        }

        int claim() {
            for (int number = 0; number < BLOCKS; number++) {
                if (blocks[number] == null) {
                    blocks[number] = new Block();
                    return number;
                }
            }
            return NONE;
        }

        void release(int number) {
            if (number >= 0 && number < BLOCKS) {
                blocks[number] = null;
            }
        }

        int byteAt(int number, int at) {
            Block block = blockAt(number);
            return block == null ? 0 : block.bytes[at] & 255;
        }

        void setByte(int number, int at, int b) {
            Block block = blockAt(number);
            if (block != null) {
                block.bytes[at] = (byte) b;
            }
        }

        private Block blockAt(int number) {
            return number >= 0 && number < BLOCKS ? blocks[number] : null;
        }
    }

    /** What is charged to one user or group, of blocks or of inodes. */
    private static final class Quota {
        int used;
        int time = NONE;
        private int soft = NONE;
        private int hard = NONE;

        /** Goes one by one, since the first that is over the soft limit may start a time that is out at once. */
        boolean refuses(int more, int now, int graceThen) {
            int runsOut = time;
            for (int next = used + 1; next <= used + more; next++) {
                if (hard != NONE && next > hard) {
                    return true;
                }
                if (isOver(next)) {
                    if (runsOut != NONE && now >= runsOut) {
                        return true;
                    }
                    runsOut = runsOut == NONE ? now + graceThen : runsOut;
                }
            }
            return false;
        }

        void add(int more, int now, int graceThen) {
            used += more;
            settleTime(now, graceThen);
        }

        void tell(int softLimit, int hardLimit, int now, int graceThen) {
            soft = softLimit;
            hard = hardLimit;
            settleTime(now, graceThen);
        }

        private boolean isOver(int charge) {
            return soft != NONE && charge > soft;
        }

        private void settleTime(int now, int graceThen) {
            if (!isOver(used)) {
                time = NONE;
            } else if (time == NONE) {
                time = now + graceThen;
            }
        }
    }

    private static final class Ledger {
        int now;
        private final Quota[] quotas = new Quota[2 * IDS * 2];
        private final int[] graces = new int[2 * 2];

        Ledger() {
            for (int i = 0; i < quotas.length; i++) {
                quotas[i] = new Quota();
            }
        }

        Quota quotaOf(int kind, int id, int what) {
            return quotas[(kind * IDS + id) * 2 + what];
        }

        boolean refuses(int kind, int id, int what, int more) {
            return quotaOf(kind, id, what).refuses(more, now, graceOf(kind, what));
        }

        void add(int kind, int id, int what, int more) {
            quotaOf(kind, id, what).add(more, now, graceOf(kind, what));
        }

        /** Whether an inode with so many blocks is too much for whom it goes to. */
        boolean refusesMove(int kind, int from, int to, int blocks) {
            return from != to
                    && (refuses(kind, to, CHARGED_INODES, 1) || refuses(kind, to, CHARGED_BLOCKS, blocks));
        }

        void move(int kind, int from, int to, int blocks) {
            // Taken and given back, a charge would lose the time that runs.
            if (from != to) {
                add(kind, from, CHARGED_INODES, -1);
                add(kind, from, CHARGED_BLOCKS, -blocks);
                add(kind, to, CHARGED_INODES, 1);
                add(kind, to, CHARGED_BLOCKS, blocks);
            }
        }

        void tellLimits(int kind, int id, int what, int soft, int hard) {
            quotaOf(kind, id, what).tell(soft, hard, now, graceOf(kind, what));
        }

        int tellGrace(int kind, int what, int minutes) {
            int was = graceOf(kind, what);
            graces[kind * 2 + what] = minutes;
            return was;
        }

        private int graceOf(int kind, int what) {
            return graces[kind * 2 + what];
        }
    }
}

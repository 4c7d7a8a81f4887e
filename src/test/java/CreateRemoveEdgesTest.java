/** The boundary cases of promises 6 and 7: create, remove. */
public final class CreateRemoveEdgesTest {
    private static final int NONE = GuardedInodes.NONE, BAD = GuardedInodes.BAD, DENIED = GuardedInodes.DENIED;
    private static final int NO_ROOM = GuardedInodes.NO_ROOM, NO_QUOTA = GuardedInodes.NO_QUOTA;
    private static final int NOT_EMPTY = GuardedInodes.NOT_EMPTY;
    private static final int LEAST = Integer.MIN_VALUE, MOST = Integer.MAX_VALUE;
    private static final Due DUE = new Due();
    private static final Twins NEW = new Twins(DUE, x -> { });
    /** 1 is a file, 2 a folder where only its owner may write and execute. */
    private static final Twins TWO = new Twins(DUE, CreateRemoveEdgesTest::two);
    private static final Twins FULL = new Twins(DUE, CreateRemoveEdgesTest::full);

    public static void main(String[] args) {
        kinds();
        modesOfAFile();
        modesOfAFolder();
        foldersOfCreate();
        usersOfCreate();
        bitsThatCreateNeeds();
        theLeastThatIsFree();
        noneIsFree();
        hardLimitOfCreate();
        softLimitOfCreate();
        keeperHasNoLimits();
        createRefusalsInOrder();
        handedOn();
        listForNewOnes();
        inodesOfRemove();
        usersOfRemove();
        bitsThatRemoveNeeds();
        stickyFolders();
        notEmpty();
        removeRefusalsInOrder();
        removeGivesAllBack();
        DUE.end();
    }

    private static void two(GuardedInodes x) {
        x.create(1, 0, 1, 0777);
        x.create(1, 0, 2, 0755);
    }

    /** 1 is a folder as in two, all others are files in it. */
    private static void full(GuardedInodes x) {
        x.create(1, 0, 2, 0755);
        for (int made = 2; made <= 63; made++) {
            x.create(1, 1, 1, 0600);
        }
    }

    private static void kinds() {
        NEW.takes("a file", x -> x.create(1, 0, 1, 0) + x.inode(1, 0), 2);
        NEW.takes("a folder", x -> x.create(1, 0, 2, 0) + x.inode(1, 0), 3);
        NEW.bad("kind", (x, kind) -> x.create(1, 0, kind, 0), 0, 3, -1, 4, LEAST, MOST);
        NEW.bad("kind by the keeper", (x, kind) -> x.create(0, 0, kind, 0), 0, 3);
    }

    private static void modesOfAFile() {
        NEW.takes("no bits", x -> x.create(1, 0, 1, 0) * 1000 + x.inode(1, 3), 1000);
        NEW.takes("all bits", x -> x.create(1, 0, 1, 511) * 1000 + x.inode(1, 3), 1511);
        NEW.bad("sticky is of a folder alone:", (x, mode) -> x.create(1, 0, 1, mode), 512, 513, 1023);
        NEW.bad("mode", (x, mode) -> x.create(1, 0, 1, mode), -1, 1024, 1535, 2048, LEAST, MOST);
    }

    private static void modesOfAFolder() {
        NEW.takes("no bits", x -> x.create(1, 0, 2, 0) * 2000 + x.inode(1, 3), 2000);
        NEW.takes("sticky alone", x -> x.create(1, 0, 2, 512) * 2000 + x.inode(1, 3), 2512);
        NEW.takes("all bits", x -> x.create(1, 0, 2, 1023) * 2000 + x.inode(1, 3), 3023);
        NEW.takes("a mask takes nine bits alone", x -> x.mask(1, 511) + x.create(1, 0, 2, 1023) * 2000 + x.inode(1, 3), 2512);
        NEW.bad("mode", (x, mode) -> x.create(1, 0, 2, mode), -1, 1024, 1025, 2047, LEAST, MOST);
    }

    private static void foldersOfCreate() {
        TWO.takes("in the root", x -> x.create(1, 0, 1, 0) * 100 + x.inode(3, 5), 300);
        TWO.takes("in another", x -> x.create(1, 2, 1, 0) * 100 + x.inode(3, 5), 302);
        TWO.bad("folder", (x, folder) -> x.create(1, folder, 1, 0), -1, 3, 63, 64, 66, LEAST, MOST);
        TWO.refuses("a file is no folder", x -> x.create(1, 1, 1, 0), BAD);
        TWO.refuses("a file is no folder for the keeper", x -> x.create(0, 1, 1, 0), BAD);
        Twins last = new Twins(DUE, x -> {
            for (int made = 1; made <= 63; made++) {
                x.create(1, 0, 2, 0700);
            }
            x.remove(1, 1);
        });
        last.takes("in the last", x -> x.create(1, 63, 1, 0) * 100 + x.inode(1, 5), 163);
        last.refuses("in one that is gone", x -> x.create(1, 1, 1, 0), BAD);
    }

    private static void usersOfCreate() {
        NEW.takes("the least user", x -> x.create(0, 0, 1, 0) + x.inode(1, 1) + x.inode(1, 2), 1);
        NEW.takes("the last user", x -> x.create(15, 0, 1, 0) + x.inode(1, 1) + x.inode(1, 2), 31);
        NEW.bad("user", (x, user) -> x.create(user, 0, 1, 0), -1, 16, LEAST, MOST);
    }

    private static void bitsThatCreateNeeds() {
        for (int bits = 0; bits < 8; bits++) {
            int has = bits;
            boolean enough = bits == 3 || bits == 7;
            Twins folder = new Twins(DUE, x -> {
                x.create(1, 0, 2, has * 64);
                x.create(1, 0, 2, 0707 + has * 8);
                x.create(1, 0, 2, 0770 + has);
                x.create(1, 0, 2, 0700);
                x.acl(1, 4, false, 0, 3, has);
                x.member(2, 1, true);
            });
            folder.answers("owner with " + bits, x -> x.create(1, 1, 1, 0), enough ? 5 : DENIED);
            folder.answers("group with " + bits, x -> x.create(2, 2, 1, 0), enough ? 5 : DENIED);
            folder.answers("others with " + bits, x -> x.create(3, 3, 1, 0), enough ? 5 : DENIED);
            folder.answers("entry with " + bits, x -> x.create(3, 4, 1, 0), enough ? 5 : DENIED);
            folder.takes("the keeper", x -> x.create(0, 1, 1, 0), 5);
        }
    }

    private static void theLeastThatIsFree() {
        NEW.takes("the first", x -> x.create(1, 0, 1, 0), 1);
        for (int gone : new int[] {2, 30, 63}) {
            Twins hole = new Twins(DUE, x -> {
                full(x);
                x.remove(1, gone);
            });
            hole.takes("the one that is free", x -> x.create(1, 1, 1, 0), gone);
            hole.takes("then none", x -> x.create(1, 1, 1, 0) * 0 + x.create(1, 1, 1, 0), NO_ROOM);
        }
        Twins holes = new Twins(DUE, x -> {
            full(x);
            x.remove(1, 63);
            x.remove(1, 20);
            x.remove(1, 40);
        });
        holes.takes("the least of several", x -> x.create(1, 1, 1, 0), 20);
    }

    private static void noneIsFree() {
        FULL.refuses("by its owner", x -> x.create(1, 1, 1, 0), NO_ROOM);
        FULL.refuses("by the keeper", x -> x.create(0, 0, 2, 1023), NO_ROOM);
        FULL.takes("inodes not used", x -> x.count(2), 0);
        FULL.takes("the last is there", x -> x.inode(63, 0), 1);
        FULL.takes("once one is gone", x -> x.remove(1, 63) + x.create(0, 0, 2, 1023), 63);
    }

    private static void hardLimitOfCreate() {
        for (int kind = 0; kind < 2; kind++) {
            int ofKind = kind;
            for (int hard : new int[] {0, 1, 2}) {
                Twins limited = new Twins(DUE, x -> {
                    for (int made = 0; made < hard; made++) {
                        x.create(1, 0, 1, 0);
                    }
                    x.limit(ofKind, 1, 1, NONE, hard);
                });
                limited.refuses("one more than " + hard, x -> x.create(1, 0, 1, 0), NO_QUOTA);
                limited.takes("another's", x -> x.create(2, 0, 1, 0), hard + 1);
                limited.takes("up to the limit", x -> x.limit(ofKind, 1, 1, NONE, hard + 1) + x.create(1, 0, 1, 0), hard + 1);
                limited.takes("of blocks counts not", x -> x.limit(ofKind, 1, 1, NONE, NONE) + x.limit(ofKind, 1, 0, 0, 0) + x.create(1, 0, 1, 0), hard + 1);
            }
        }
    }

    private static void softLimitOfCreate() {
        for (int kind = 0; kind < 2; kind++) {
            int ofKind = kind;
            Twins limited = new Twins(DUE, x -> {
                x.grace(ofKind, 1, 5);
                x.limit(ofKind, 1, 1, 1, NONE);
                x.create(1, 0, 1, 0);
            });
            limited.takes("no time at the limit", x -> x.charged(ofKind, 1, 3), NONE);
            limited.takes("over the limit", x -> x.create(1, 0, 1, 0) * 10 + x.charged(ofKind, 1, 3), 25);
            Twins over = new Twins(DUE, x -> {
                x.grace(ofKind, 1, 5);
                x.limit(ofKind, 1, 1, 0, NONE);
                x.create(1, 0, 1, 0);
                x.tick(4);
            });
            over.takes("a minute before the time", x -> x.create(1, 0, 1, 0), 2);
            Twins out = new Twins(DUE, x -> {
                x.grace(ofKind, 1, 5);
                x.limit(ofKind, 1, 1, 0, NONE);
                x.create(1, 0, 1, 0);
                x.tick(5);
            });
            out.refuses("at the time", x -> x.create(1, 0, 1, 0), NO_QUOTA);
            out.takes("behind the time", x -> x.tick(1) * 0 + x.create(1, 0, 1, 0), NO_QUOTA);
        }
    }

    private static void keeperHasNoLimits() {
        Twins limited = new Twins(DUE, x -> {
            x.limit(0, 0, 1, 0, 0);
            x.limit(1, 0, 1, 0, 0);
            x.first(1, 0);
        });
        limited.takes("the first", x -> x.create(0, 0, 1, 0), 1);
        limited.takes("when the time is out", x -> x.create(0, 0, 1, 0) + x.create(0, 0, 1, 0), 3);
        limited.refuses("another of the keeper's group", x -> x.create(1, 0, 1, 0), NO_QUOTA);
    }

    private static void createRefusalsInOrder() {
        Twins all = new Twins(DUE, x -> {
            full(x);
            x.chmod(1, 1, 0);
            x.limit(0, 1, 1, 0, 0);
            x.limit(0, 2, 1, 0, 0);
        });
        all.refuses("kind before denied", x -> x.create(1, 1, 0, 0), BAD);
        all.refuses("mode before denied", x -> x.create(1, 1, 1, 512), BAD);
        all.refuses("no folder before no room", x -> x.create(1, 2, 1, 0), BAD);
        all.refuses("no user before no room", x -> x.create(16, 0, 1, 0), BAD);
        all.refuses("denied before no room", x -> x.create(1, 1, 1, 0), DENIED);
        all.refuses("no room before no quota", x -> x.create(2, 0, 1, 0), NO_ROOM);
        Twins limited = new Twins(DUE, x -> {
            two(x);
            x.limit(0, 2, 1, 0, 0);
            x.limit(1, 2, 1, 0, 0);
        });
        limited.refuses("kind before no quota", x -> x.create(2, 0, 3, 0), BAD);
        limited.refuses("denied before no quota", x -> x.create(2, 2, 1, 0), DENIED);
        limited.refuses("no quota of both", x -> x.create(2, 0, 1, 0), NO_QUOTA);
    }

    private static void handedOn() {
        Twins folder = new Twins(DUE, x -> {
            x.create(1, 0, 2, 0777 + 512);
            x.chmod(1, 1, 1024 + 512 + 0777);
        });
        folder.takes("a file's group", x -> x.create(2, 1, 1, 0) * 10 + x.inode(2, 2), 21);
        folder.takes("a file is not handed on", x -> x.create(2, 1, 1, 511) * 0 + x.inode(2, 3), 511);
        folder.takes("a folder is, and not sticky", x -> x.create(2, 1, 2, 0) * 0 + x.inode(2, 3), 1024);
        folder.takes("a folder is, and sticky", x -> x.create(2, 1, 2, 512) * 0 + x.inode(2, 3), 1536);
        folder.takes("its owner", x -> x.create(2, 1, 2, 0) * 0 + x.inode(2, 1), 2);
        folder.takes("charged to the folder's group", x -> x.create(2, 1, 1, 0) * 0 + x.charged(1, 1, 1) * 10 + x.charged(1, 2, 1), 20);
        folder.takes("no longer handed on", x -> x.chmod(1, 1, 0777) * 0 + x.create(2, 1, 2, 0) * 0 + x.inode(2, 2) * 2048 + x.inode(2, 3), 4096);
    }

    private static void listForNewOnes() {
        Twins folder = new Twins(DUE, x -> {
            x.create(1, 0, 2, 0757);
            for (int id = 0; id < 8; id++) {
                x.acl(1, 1, true, id % 2, id * 2, 2);
            }
            x.mask(2, 511);
        });
        folder.takes("a file's mode, all asked for", x -> x.create(2, 1, 1, 511) * 0 + x.inode(2, 3), 0777);
        folder.takes("a file's mode, nothing asked for", x -> x.create(2, 1, 1, 0) * 0 + x.inode(2, 3), 0);
        folder.takes("its limit then", x -> x.create(2, 1, 1, 0) * 0 + x.list(2, false, 1), 0);
        folder.takes("its group bits then", x -> x.create(2, 1, 1, 0) * 0 + x.list(2, false, 2), 5);
        folder.takes("all eight entries", x -> x.create(2, 1, 1, 0) * 0 + x.list(2, false, 0), 8);
        folder.takes("a ninth of it", x -> x.create(2, 1, 1, 0) * 0 + x.acl(2, 2, false, 1, 15, 0), NO_ROOM);
        folder.takes("a file has none for new ones", x -> x.create(2, 1, 1, 0) * 0 + x.list(2, true, 0), 0);
        folder.takes("a folder has", x -> x.create(2, 1, 2, 0) * 0 + x.list(2, true, 0), 8);
        folder.takes("a ninth of that", x -> x.create(2, 1, 2, 0) * 0 + x.acl(2, 2, true, 1, 15, 0), NO_ROOM);
        folder.takes("a sticky folder", x -> x.create(2, 1, 2, 1023) * 0 + x.inode(2, 3), 01777);
        folder.takes("the parent has no list by it", x -> x.create(2, 1, 2, 0) * 0 + x.list(1, false, 0), 0);
        for (int what = 5; what < 29; what++) {
            int field = what;
            int entry = (what - 5) / 3;
            int due = what % 3 == 2 ? entry / 4 : what % 3 == 0 ? entry % 4 * 4 + entry / 4 * 2 : 2;
            folder.takes("the parent's " + what, x -> x.list(1, true, field), due);
            folder.takes("a file's " + what, x -> x.create(2, 1, 1, 0) * 0 + x.list(2, false, field), due);
            folder.takes("a folder's " + what, x -> x.create(2, 1, 2, 0) * 0 + x.list(2, false, field), due);
            folder.takes("a folder's for new ones " + what, x -> x.create(2, 1, 2, 0) * 0 + x.list(2, true, field), due);
        }
        Twins without = new Twins(DUE, x -> {
            x.create(1, 0, 2, 0777);
            x.acl(1, 1, true, 0, 5, 7);
            x.acl(1, 1, true, 0, 5, NONE);
            x.mask(1, 7);
        });
        without.takes("gone with its last entry: the mask counts", x -> x.create(1, 1, 1, 511) * 0 + x.inode(2, 3), 0770);
        without.takes("gone with its last entry: no list", x -> x.create(1, 1, 1, 511) * 0 + x.list(2, false, 0), 0);
    }

    private static void inodesOfRemove() {
        FULL.takes("the last", x -> x.remove(1, 63) * 10 + x.inode(63, 0), BAD);
        FULL.takes("the first that can go", x -> x.remove(0, 2), 0);
        FULL.bad("inode", (x, inode) -> x.remove(0, inode), -1, 64, LEAST, MOST);
        TWO.bad("one that is not there:", (x, inode) -> x.remove(0, inode), 3, 63);
        TWO.refuses("the root by the keeper", x -> x.remove(0, 0), BAD);
        TWO.refuses("the root by another", x -> x.remove(1, 0), BAD);
        NEW.refuses("the root that is empty", x -> x.remove(0, 0), BAD);
        TWO.takes("twice", x -> x.remove(1, 1) + x.remove(1, 1), BAD);
    }

    private static void usersOfRemove() {
        Twins files = new Twins(DUE, x -> {
            x.create(15, 0, 1, 0);
            x.create(0, 0, 1, 0);
        });
        files.takes("the least user", x -> x.remove(0, 1), 0);
        files.takes("the last user", x -> x.remove(15, 1), 0);
        files.bad("user", (x, user) -> x.remove(user, 1), -1, 16, LEAST, MOST);
    }

    private static void bitsThatRemoveNeeds() {
        for (int bits = 0; bits < 8; bits++) {
            int has = bits;
            int due = bits == 3 || bits == 7 ? 0 : DENIED;
            Twins folder = new Twins(DUE, x -> {
                x.create(1, 0, 2, 0777);
                x.create(1, 1, 1, 0);
                x.create(3, 1, 1, 0777);
                x.member(2, 1, true);
                x.chmod(1, 1, has * (64 + 8 + 1));
            });
            folder.answers("owner with " + bits, x -> x.remove(1, 2), due);
            folder.answers("group with " + bits, x -> x.remove(2, 2), due);
            folder.answers("others with " + bits, x -> x.remove(4, 2), due);
            folder.answers("its own owner, where others have " + bits, x -> x.remove(3, 3), due);
            folder.takes("the keeper", x -> x.remove(0, 2), 0);
        }
    }

    private static void stickyFolders() {
        Twins folder = new Twins(DUE, x -> {
            x.create(1, 0, 2, 0777);
            x.create(2, 1, 1, 0777);
            x.member(4, 2, true);
            x.member(4, 1, true);
            x.chmod(1, 1, 0777 + 512);
            x.chmod(0, 0, 0777 + 512);
        });
        folder.takes("its owner", x -> x.remove(2, 2), 0);
        folder.takes("the folder's owner", x -> x.remove(1, 2), 0);
        folder.takes("the keeper", x -> x.remove(0, 2), 0);
        folder.refuses("another", x -> x.remove(3, 2), DENIED);
        folder.refuses("one of both groups", x -> x.remove(4, 2), DENIED);
        folder.refuses("another, of the folder itself", x -> x.remove(3, 1), DENIED);
        folder.takes("another, once it is not sticky", x -> x.chmod(1, 1, 0777) * 0 + x.remove(3, 2), 0);
        folder.takes("its owner who may not write there", x -> x.chmod(1, 1, 0755 + 512) * 0 + x.remove(2, 2), DENIED);
        folder.takes("the folder's owner who may not write there", x -> x.chmod(1, 1, 0577 + 512) * 0 + x.remove(1, 2), DENIED);
        Twins sticky = new Twins(DUE, x -> x.create(1, 0, 2, 1023));
        sticky.takes("sticky itself, in a folder that is not", x -> x.remove(3, 1), 0);
    }

    private static void notEmpty() {
        Twins one = new Twins(DUE, x -> {
            x.create(1, 0, 2, 0777);
            x.create(1, 1, 1, 0);
        });
        one.refuses("one lies in it", x -> x.remove(1, 1), NOT_EMPTY);
        one.refuses("one lies in it, for the keeper", x -> x.remove(0, 1), NOT_EMPTY);
        one.takes("once that is gone", x -> x.remove(1, 2) + x.remove(1, 1), 0);
        FULL.refuses("62 lie in it", x -> x.remove(1, 1), NOT_EMPTY);
    }

    private static void removeRefusalsInOrder() {
        Twins sticky = new Twins(DUE, x -> {
            x.create(1, 0, 2, 1023);
            x.create(2, 1, 2, 0777);
            x.create(2, 2, 1, 0777);
        });
        sticky.refuses("sticky before not empty", x -> x.remove(3, 2), DENIED);
        sticky.refuses("not empty, for its owner", x -> x.remove(2, 2), NOT_EMPTY);
        Twins closed = new Twins(DUE, x -> {
            x.create(1, 0, 2, 0777);
            x.create(2, 1, 2, 0777);
            x.create(2, 2, 1, 0777);
            x.chmod(1, 1, 0700);
            x.chmod(0, 0, 0);
        });
        closed.refuses("denied before not empty", x -> x.remove(2, 2), DENIED);
        closed.refuses("bad before denied", x -> x.remove(2, 0), BAD);
        closed.refuses("bad before not empty", x -> x.remove(0, 0), BAD);
        closed.refuses("no user before denied", x -> x.remove(16, 2), BAD);
    }

    private static void removeGivesAllBack() {
        Twins file = new Twins(DUE, x -> {
            x.create(1, 0, 1, 0777);
            for (int pair = 0; pair < 6; pair++) {
                x.write(1, 1, pair * 128 + 60, 8, -1);
            }
            for (int i = 0; i < 38; i++) {
                x.feed(i);
            }
            x.put(1, 1, 0);
            x.limit(0, 1, 0, 12, NONE);
            x.limit(1, 1, 1, 0, NONE);
        });
        file.takes("blocks at first", x -> x.count(1), 243);
        file.takes("blocks", x -> x.remove(1, 1) + x.count(1), 256);
        file.takes("inodes", x -> x.remove(1, 1) + x.count(2), 63);
        for (int kind = 0; kind < 2; kind++) {
            int ofKind = kind;
            file.takes("times at first", x -> x.charged(ofKind, 1, 2 + ofKind), 0);
            for (int what = 0; what < 4; what++) {
                int field = what;
                file.takes("charged " + kind + ", " + what, x -> x.remove(1, 1) + x.charged(ofKind, 1, field), what < 2 ? 0 : NONE);
            }
        }
        file.takes("where it lay", x -> x.remove(1, 1) + x.inode(0, 6), 0);
    }
}

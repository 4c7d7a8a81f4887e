/** Promises 8 to 10: write, read, resize. */
public final class DataTest {
    private static final int NONE = GuardedInodes.NONE, BAD = GuardedInodes.BAD, DENIED = GuardedInodes.DENIED;
    private static final int NO_ROOM = GuardedInodes.NO_ROOM, NO_QUOTA = GuardedInodes.NO_QUOTA;
    private static final Due DUE = new Due();

    public static void main(String[] args) {
        promise8();
        promise8Refusals();
        promise8NoRoom();
        promise8Quota();
        promise9();
        promise10();
        promise10Refusals();
        DUE.end();
    }

    private static void promise8() {
        GuardedInodes x = new GuardedInodes();
        x.create(1, 0, 1, 0600);
        DUE.is("the three lowest bytes", x.write(1, 1, 5, 3, 0x1122334455667788L), 8);
        DUE.is("the highest first", x.read(1, 1, 5, 3), 0x667788L);
        DUE.is("in the middle", x.read(1, 1, 6, 1), 0x77L);
        DUE.is("size stays", x.write(1, 1, 0, 1, 255), 8);
        DUE.is("both", x.read(1, 1, 0, 8), 0xff00000000667788L);
        DUE.is("a write of zeros has a block", x.write(1, 1, 640, 8, 0), 648);
        DUE.is("least block", x.inode(1, 19), 1);
        DUE.is("a hole", x.inode(1, 10), NONE);
        DUE.is("over two parts", x.write(1, 1, 127, 2, 0x0102), 648);
        DUE.is("first of two", x.inode(1, 10), 2);
        DUE.is("second of two", x.inode(1, 11), 3);
        DUE.is("no block for what has one", x.write(1, 1, 63, 2, 0x0304), 648);
        DUE.is("blocks", x.inode(1, 7), 4);
        DUE.is("charged to the user", x.charged(0, 1, 0), 4);
        DUE.is("charged to the group", x.charged(1, 1, 0), 4);
        DUE.is("the last place", x.write(1, 1, 767, 1, 7), 768);
        DUE.is("the end", x.write(1, 1, 760, 8, 0x0102030405060708L), 768);
        DUE.is("the last byte", x.read(1, 1, 767, 1), 8);
        DUE.is("ends with a part: no next one", x.write(1, 1, 248, 8, 1), 768);
        DUE.is("the next part", x.inode(1, 13), NONE);
        x.create(2, 0, 1, 0602);
        DUE.is("written by another", x.write(1, 2, 0, 1, 1), 1);
        DUE.is("charged to its owner", x.charged(0, 2, 0), 1);
    }

    private static void promise8Refusals() {
        GuardedInodes x = new GuardedInodes();
        x.create(1, 0, 1, 0400);
        x.create(1, 0, 2, 0777);
        for (int n : new int[] {0, -1, 9, Integer.MIN_VALUE, Integer.MAX_VALUE}) {
            DUE.is("n = " + n, x.write(0, 1, 0, n, 1), BAD);
            DUE.is("read n = " + n, x.read(0, 1, 0, n), BAD);
        }
        for (int n = 1; n <= 8; n++) {
            for (int place : new int[] {-1, 769 - n, Integer.MIN_VALUE, Integer.MAX_VALUE}) {
                DUE.is("n = " + n + " at " + place, x.write(0, 1, place, n, 1), BAD);
                DUE.is("read n = " + n + " at " + place, x.read(0, 1, place, n), BAD);
            }
        }
        for (int inode : new int[] {0, 2, 3, 64, -1}) {
            DUE.is("inode " + inode, x.write(0, inode, 0, 1, 1), BAD);
        }
        for (int user : new int[] {-1, 16}) {
            DUE.is("user " + user, x.write(user, 1, 0, 1, 1), BAD);
        }
        DUE.is("may not write", x.write(1, 1, 0, 1, 1), DENIED);
        DUE.is("bad before denied", x.write(1, 1, 0, 9, 1), BAD);
        DUE.is("nothing is done", x.inode(1, 4) + x.inode(1, 7), 0);
        DUE.is("the keeper", x.write(0, 1, 0, 1, 1), 1);
        DUE.is("a keeper's act is charged to the owner", x.charged(0, 1, 0), 1);
    }

    private static void promise8NoRoom() {
        GuardedInodes x = new GuardedInodes();
        for (int i = 1; i <= 22; i++) {
            x.create(1, 0, 1, 0600);
        }
        for (int part = 0; part < 255; part++) {
            x.write(1, 1 + part / 12, part % 12 * 64, 1, 1);
        }
        DUE.is("blocks not used", x.count(1), 1);
        x.limit(0, 1, 0, NONE, 0);
        x.limit(0, 2, 0, NONE, 0);
        DUE.is("one of two lacks, before the quota", x.write(1, 22, 252, 8, -1), NO_ROOM);
        DUE.is("nothing is done", x.count(1), 1);
        DUE.is("size", x.inode(22, 4), 129);
        DUE.is("the quota", x.write(1, 22, 256, 8, -1), NO_QUOTA);
        x.limit(0, 1, 0, NONE, NONE);
        DUE.is("the last block", x.write(1, 22, 256, 8, -1), 264);
        DUE.is("its number", x.inode(22, 13), 255);
        DUE.is("none", x.write(1, 22, 320, 1, 1), NO_ROOM);
        DUE.is("denied before no room", x.write(2, 22, 320, 1, 1), DENIED);
        DUE.is("what has a block needs none", x.write(1, 22, 263, 1, 1), 264);
        x.remove(1, 3);
        DUE.is("the least that is not used", x.write(1, 22, 320, 1, 1), 321);
        DUE.is("its number", x.inode(22, 14), 24);
    }

    private static void promise8Quota() {
        GuardedInodes x = new GuardedInodes();
        x.create(1, 0, 1, 0602);
        x.create(2, 0, 1, 0602);
        x.limit(0, 1, 0, NONE, 1);
        DUE.is("two would be more than the hard limit", x.write(1, 1, 60, 8, -1), NO_QUOTA);
        DUE.is("nothing is done: size", x.inode(1, 4), 0);
        DUE.is("nothing is done: blocks", x.count(1), 256);
        DUE.is("one is not", x.write(1, 1, 0, 8, -1), 8);
        DUE.is("it is the owner's limit", x.write(2, 1, 64, 1, 1), NO_QUOTA);
        DUE.is("not the writer's", x.write(1, 2, 64, 1, 1), 65);
        DUE.is("what charges nothing is not refused", x.write(1, 1, 8, 8, -1), 16);
        x.limit(1, 2, 0, NONE, 1);
        DUE.is("the group's", x.write(1, 2, 0, 1, 1), NO_QUOTA);
        DUE.is("the keeper", x.write(0, 2, 0, 1, 1), 65);
        DUE.is("beyond the limit", x.charged(1, 2, 0), 2);
    }

    private static void promise9() {
        GuardedInodes x = new GuardedInodes();
        x.create(1, 0, 1, 0640);
        DUE.is("an empty file", x.read(1, 1, 760, 8), 0);
        x.write(1, 1, 0, 8, -2);
        DUE.is("such bytes as BAD", x.read(1, 1, 0, 8), -2);
        DUE.is("without sign", x.read(1, 1, 0, 7), (1L << 56) - 1);
        x.write(1, 1, 0, 8, -3);
        DUE.is("such bytes as DENIED", x.read(1, 1, 0, 8), -3);
        DUE.is("those behind size are 0", x.read(1, 1, 4, 8), -3L << 32);
        DUE.is("may not read", x.read(2, 1, 0, 8), DENIED);
        DUE.is("bad before denied", x.read(2, 1, 0, 9), BAD);
        x.member(2, 1, true);
        DUE.is("may by the group", x.read(2, 1, 7, 1), 253);
        x.chmod(1, 1, 0200);
        DUE.is("an owner who may not", x.read(1, 1, 0, 1), DENIED);
        DUE.is("the keeper", x.read(0, 1, 0, 1), 255);
        x.create(1, 0, 2, 0777);
        for (int inode : new int[] {0, 2, 3, 64, -1}) {
            DUE.is("inode " + inode, x.read(0, inode, 0, 1), BAD);
        }
        DUE.is("no user", x.read(16, 1, 0, 1), BAD);
        DUE.is("no user", x.read(-1, 1, 0, 1), BAD);
        DUE.is("the last place", x.read(0, 1, 767, 1), 0);
        DUE.is("reading takes no blocks", x.inode(1, 7), 1);
    }

    private static void promise10() {
        GuardedInodes x = new GuardedInodes();
        x.create(1, 0, 1, 0600);
        DUE.is("up", x.resize(1, 1, 768), 0);
        DUE.is("no blocks come", x.inode(1, 7), 0);
        for (int part = 0; part < 12; part++) {
            x.write(1, 1, part * 64 + 56, 8, -1);
            x.write(1, 1, part * 64, 8, -1);
        }
        DUE.is("down by one", x.resize(1, 1, 767), 768);
        DUE.is("no block goes", x.inode(1, 7), 12);
        DUE.is("to a part's first byte", x.resize(1, 1, 129), 767);
        DUE.is("blocks", x.inode(1, 7), 3);
        DUE.is("to a part's end", x.resize(1, 1, 128), 129);
        DUE.is("blocks", x.inode(1, 7), 2);
        DUE.is("charged to the user", x.charged(0, 1, 0), 2);
        DUE.is("charged to the group", x.charged(1, 1, 0), 2);
        DUE.is("not used", x.count(1), 254);
        DUE.is("into a part", x.resize(1, 1, 124), 128);
        DUE.is("up", x.resize(1, 1, 500), 124);
        DUE.is("bytes behind became 0", x.read(1, 1, 120, 8), -1L << 32);
        DUE.is("the others stay", x.read(1, 1, 56, 8), -1);
        DUE.is("same", x.resize(1, 1, 500), 500);
        DUE.is("nothing", x.resize(1, 1, 0), 500);
        DUE.is("not used", x.count(1), 256);
        DUE.is("a size is not data", x.read(1, 1, 0, 8), 0);
    }

    private static void promise10Refusals() {
        GuardedInodes x = new GuardedInodes();
        x.create(1, 0, 1, 0400);
        x.create(1, 0, 2, 0777);
        for (int size : new int[] {-1, 769, Integer.MIN_VALUE, Integer.MAX_VALUE}) {
            DUE.is("size " + size, x.resize(0, 1, size), BAD);
        }
        for (int inode : new int[] {0, 2, 3, 64, -1}) {
            DUE.is("inode " + inode, x.resize(0, inode, 0), BAD);
        }
        DUE.is("no user", x.resize(16, 1, 0), BAD);
        DUE.is("no user", x.resize(-1, 1, 0), BAD);
        DUE.is("may not write", x.resize(1, 1, 1), DENIED);
        DUE.is("bad before denied", x.resize(1, 1, 769), BAD);
        DUE.is("nothing is done", x.inode(1, 4), 0);
        DUE.is("the keeper", x.resize(0, 1, 768), 0);
    }
}
